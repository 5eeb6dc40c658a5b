noncomputable def p_X9_setDefaults (a : Nat) : zP Unit := (z_jn (τ := Unit) (z_lp (fun (t2 : Int32) => (if 138 ≤ t2 then (z_pu (.inr (.inl ()))) else (z_bd (z_gA 9 a 10) (fun v3 => (z_bd (z_sI 11 v3 t2 0) (fun _ => (z_pu (.inl ((t2 + 1)))))))))) 0) (fun t1 => (z_bd (z_gA 9 a 10) (fun v4 => (z_bd (z_sI 11 v4 3 10) (fun _ => (z_bd (z_gA 9 a 10) (fun v5 => (z_bd (z_sI 11 v5 4 5) (fun _ => (z_bd (z_gA 9 a 10) (fun v6 => (z_bd (z_sI 11 v6 5 20) (fun _ => (z_bd (z_pI 9 a 14 0) (fun _ => (z_bd (z_gA 9 a 12) (fun v7 => (z_bd (z_sI 11 v7 0 100) (fun _ => (z_bd (z_gA 9 a 10) (fun v8 => (z_bd (z_sI 11 v8 8 1) (fun _ => (z_pu ())))))))))))))))))))))))))
set_option maxHeartbeats 4000000 in
set_option maxRecDepth 100000 in
theorem s_X9_setDefaults (a : Nat) : z_Sound yX9_setDefaults cX9_setDefaults 2 none 1 20 (fun D b => [.ref (b + a)]) z_ivV (p_X9_setDefaults a) := by
  refine z_ofSim rfl (by intro D b; exact Nat.le_of_ble_eq_true rfl) (fun X C hT => ?_)
  unfold p_X9_setDefaults
  refine r_sub [(0, .ref (x_b X + a))] rfl ?_
  refine r_iconst (pc := 0) C dX9_setDefaults_0 ki_0 ?_
  refine r_sti_n (pc := 1) C 1 [(0, .ref (x_b X + a)), (1, .int 0)] dX9_setDefaults_1 rfl (by decide) rfl ?_
  refine r_jn 22 (fun (t1 : Unit) => [(0, .ref (x_b X + a))]) (fun (t1 : Unit) => []) (fun t1 => ?_) ?_
  · refine r_aload_n (pc := 22) C dX9_setDefaults_22 rfl rfl ?_
    refine r_getA (pc := 23) C dX9_setDefaults_23 fl_X9_13 rfl (fun v4 => ?_)
    refine r_iconst (pc := 26) C dX9_setDefaults_26 ki_3 ?_
    refine r_bipush (pc := 27) C dX9_setDefaults_27 kb_10 ?_
    refine r_iast (pc := 29) C dX9_setDefaults_29 ?_
    refine r_aload_n (pc := 30) C dX9_setDefaults_30 rfl rfl ?_
    refine r_getA (pc := 31) C dX9_setDefaults_31 fl_X9_13 rfl (fun v5 => ?_)
    refine r_iconst (pc := 34) C dX9_setDefaults_34 ki_4 ?_
    refine r_iconst (pc := 35) C dX9_setDefaults_35 ki_5 ?_
    refine r_iast (pc := 36) C dX9_setDefaults_36 ?_
    refine r_aload_n (pc := 37) C dX9_setDefaults_37 rfl rfl ?_
    refine r_getA (pc := 38) C dX9_setDefaults_38 fl_X9_13 rfl (fun v6 => ?_)
    refine r_iconst (pc := 41) C dX9_setDefaults_41 ki_5 ?_
    refine r_bipush (pc := 42) C dX9_setDefaults_42 kb_20 ?_
    refine r_iast (pc := 44) C dX9_setDefaults_44 ?_
    refine r_aload_n (pc := 45) C dX9_setDefaults_45 rfl rfl ?_
    refine r_iconst (pc := 46) C dX9_setDefaults_46 ki_0 ?_
    refine r_putI (pc := 47) C dX9_setDefaults_47 fl_X9_129 rfl rfl ?_
    refine r_aload_n (pc := 50) C dX9_setDefaults_50 rfl rfl ?_
    refine r_getA (pc := 51) C dX9_setDefaults_51 fl_X9_20 rfl (fun v7 => ?_)
    refine r_iconst (pc := 54) C dX9_setDefaults_54 ki_0 ?_
    refine r_bipush (pc := 55) C dX9_setDefaults_55 kb_100 ?_
    refine r_iast (pc := 57) C dX9_setDefaults_57 ?_
    refine r_aload_n (pc := 58) C dX9_setDefaults_58 rfl rfl ?_
    refine r_getA (pc := 59) C dX9_setDefaults_59 fl_X9_13 rfl (fun v8 => ?_)
    refine r_bipush (pc := 62) C dX9_setDefaults_62 kb_8 ?_
    refine r_iconst (pc := 64) C dX9_setDefaults_64 ki_1 ?_
    refine r_iast (pc := 65) C dX9_setDefaults_65 ?_
    exact r_vret (pc := 66) C dX9_setDefaults_66
  · refine r_sub [(0, .ref (x_b X + a)), (1, .int 0)] rfl ?_
    refine r_lp (pc := 2) (fun (t2 : Int32) => [(0, .ref (x_b X + a)), (1, .int t2)]) (fun t2 => ?_) 0
    refine r_iload_n (pc := 2) C dX9_setDefaults_2 rfl rfl ?_
    refine r_sipush (pc := 3) C dX9_setDefaults_3 ks_138 ?_
    refine r_icmp_ge (pc := 6) C (tgt := 22) dX9_setDefaults_6 rfl (fun _ => ?_) (fun _ => ?_)
    · refine r_sub [(0, .ref (x_b X + a))] rfl ?_
      exact r_up (r_br (τ := Unit) ())
    · refine r_aload_n (pc := 9) C dX9_setDefaults_9 rfl rfl ?_
      refine r_getA (pc := 10) C dX9_setDefaults_10 fl_X9_13 rfl (fun v3 => ?_)
      refine r_iload_n (pc := 13) C dX9_setDefaults_13 rfl rfl ?_
      refine r_iconst (pc := 14) C dX9_setDefaults_14 ki_0 ?_
      refine r_iast (pc := 15) C dX9_setDefaults_15 ?_
      refine r_inc (pc := 16) C 1 [(0, .ref (x_b X + a)), (1, .int (t2 + 1))] dX9_setDefaults_16 rfl ki_1 (by decide) rfl ?_
      refine r_goto (pc := 19) C (tgt := 2) dX9_setDefaults_19 rfl ?_
      refine r_sub [(0, .ref (x_b X + a)), (1, .int (t2 + 1))] rfl ?_
      exact r_br (τ := Int32) ((t2 + 1))
noncomputable def p_X9_put (a : Nat) (p1 : Int32) (p2 : Int32) (p3 : Int32) : zP Unit := (z_bd (z_gA 9 a 19) (fun v1 => (z_bd (z_sI 11 v1 ((22 + (18 * p1)) + p2) p3) (fun _ => (z_pu ())))))
set_option maxHeartbeats 4000000 in
set_option maxRecDepth 100000 in
theorem s_X9_put (a : Nat) (p1 : Int32) (p2 : Int32) (p3 : Int32) : z_Sound yX9_put cX9_put 4 none 1 20 (fun D b => [.ref (b + a), .int p1, .int p2, .int p3]) z_ivV (p_X9_put a p1 p2 p3) := by
  refine z_ofSim rfl (by intro D b; exact Nat.le_of_ble_eq_true rfl) (fun X C hT => ?_)
  unfold p_X9_put
  refine r_sub [(0, .ref (x_b X + a)), (1, .int p1), (2, .int p2), (3, .int p3)] rfl ?_
  refine r_aload_n (pc := 0) C dX9_put_0 rfl rfl ?_
  refine r_getA (pc := 1) C dX9_put_1 fl_X9_32 rfl (fun v1 => ?_)
  refine r_bipush (pc := 4) C dX9_put_4 kb_22 ?_
  refine r_bipush (pc := 6) C dX9_put_6 kb_18 ?_
  refine r_iload_n (pc := 8) C dX9_put_8 rfl rfl ?_
  refine r_imul (pc := 9) C dX9_put_9 ?_
  refine r_iadd (pc := 10) C dX9_put_10 ?_
  refine r_iload_n (pc := 11) C dX9_put_11 rfl rfl ?_
  refine r_iadd (pc := 12) C dX9_put_12 ?_
  refine r_iload_n (pc := 13) C dX9_put_13 rfl rfl ?_
  refine r_iast (pc := 14) C dX9_put_14 ?_
  exact r_vret (pc := 15) C dX9_put_15
noncomputable def p_X9_takeDraft (a : Nat) : zP Unit := (z_jn (τ := Unit) (z_lp (fun (t2 : Int32) => (if 138 ≤ t2 then (z_pu (.inr (.inl ()))) else (z_bd (z_gA 9 a 11) (fun v3 => (z_bd (z_gA 9 a 10) (fun v4 => (z_bd (z_aI 11 v4 t2) (fun v5 => (z_bd (z_sI 11 v3 t2 v5) (fun _ => (z_pu (.inl ((t2 + 1)))))))))))))) 0) (fun t1 => (z_jn (τ := Unit) (z_lp (fun (t7 : Int32) => (z_bd (z_gA 9 a 10) (fun v8 => (z_bd (z_aI 11 v8 8) (fun v9 => (if v9 ≤ t7 then (z_pu (.inr (.inl ()))) else (z_bd (z_gA 9 a 13) (fun v10 => (z_bd (z_gA 9 a 12) (fun v11 => (z_bd (z_aI 11 v11 t7) (fun v12 => (z_bd (z_sI 11 v10 t7 v12) (fun _ => (z_pu (.inl ((t7 + 1)))))))))))))))))) 0) (fun t6 => (z_jn (τ := Unit) (z_lp (fun (t14 : Int32) => (if 3277 ≤ t14 then (z_pu (.inr (.inl ()))) else (z_bd (z_gA 9 a 19) (fun v15 => (z_bd (z_sI 11 v15 t14 0) (fun _ => (z_pu (.inl ((t14 + 1)))))))))) 0) (fun t13 => (z_jn (τ := Unit) (z_lp (fun (t17 : Int32) => (z_bd (z_gA 9 a 11) (fun v18 => (z_bd (z_aI 11 v18 0) (fun v19 => (if v19 ≤ t17 then (z_pu (.inr (.inl ()))) else (z_bd (z_gA 9 a 19) (fun v20 => (z_bd (z_gA 9 a 11) (fun v21 => (z_bd (z_aI 11 v21 (34 + t17)) (fun v22 => (z_bd (z_sI 11 v20 (6 + t17) v22) (fun _ => (z_pu (.inl ((t17 + 1)))))))))))))))))) 0) (fun t16 => (z_jn (τ := Unit) (z_lp (fun (t24 : Int32) => (z_bd (z_gA 9 a 11) (fun v25 => (z_bd (z_aI 11 v25 1) (fun v26 => (if v26 ≤ t24 then (z_pu (.inr (.inl ()))) else (z_bd (z_gA 9 a 11) (fun v27 => (z_bd (z_aI 11 v27 (42 + t24)) (fun v28 => (z_bd (z_cv 9 a (p_X9_put a t24 0 v28)) (fun _ => (z_bd (z_cv 9 a (p_X9_put a t24 1 (-1))) (fun _ => (z_bd (z_cv 9 a (p_X9_put a t24 2 (-1))) (fun _ => (z_pu (.inl ((t24 + 1)))))))))))))))))))) 0) (fun t23 => (z_bd (z_pI 9 a 21 0) (fun _ => (z_bd (z_gA 9 a 23) (fun v32 => (z_bd (z_sZ v32 0 0) (fun _ => (z_bd (z_gA 9 a 23) (fun v33 => (z_bd (z_sZ v33 1 0) (fun _ => (z_pu ())))))))))))))))))))))
set_option maxHeartbeats 4000000 in
set_option maxRecDepth 100000 in
theorem s_X9_takeDraft (a : Nat) : z_Sound yX9_takeDraft cX9_takeDraft 2 none 2 43 (fun D b => [.ref (b + a)]) z_ivV (p_X9_takeDraft a) := by
  refine z_ofSim rfl (by intro D b; exact Nat.le_of_ble_eq_true rfl) (fun X C hT => ?_)
  unfold p_X9_takeDraft
  refine r_sub [(0, .ref (x_b X + a))] rfl ?_
  refine r_iconst (pc := 0) C dX9_takeDraft_0 ki_0 ?_
  refine r_sti_n (pc := 1) C 1 [(0, .ref (x_b X + a)), (1, .int 0)] dX9_takeDraft_1 rfl (by decide) rfl ?_
  refine r_jn 27 (fun (t1 : Unit) => [(0, .ref (x_b X + a))]) (fun (t1 : Unit) => []) (fun t1 => ?_) ?_
  · refine r_iconst (pc := 27) C dX9_takeDraft_27 ki_0 ?_
    refine r_sti_n (pc := 28) C 1 [(0, .ref (x_b X + a)), (1, .int 0)] dX9_takeDraft_28 rfl (by decide) rfl ?_
    refine r_jn 58 (fun (t6 : Unit) => [(0, .ref (x_b X + a))]) (fun (t6 : Unit) => []) (fun t6 => ?_) ?_
    · refine r_iconst (pc := 58) C dX9_takeDraft_58 ki_0 ?_
      refine r_sti_n (pc := 59) C 1 [(0, .ref (x_b X + a)), (1, .int 0)] dX9_takeDraft_59 rfl (by decide) rfl ?_
      refine r_jn 80 (fun (t13 : Unit) => [(0, .ref (x_b X + a))]) (fun (t13 : Unit) => []) (fun t13 => ?_) ?_
      · refine r_iconst (pc := 80) C dX9_takeDraft_80 ki_0 ?_
        refine r_sti_n (pc := 81) C 1 [(0, .ref (x_b X + a)), (1, .int 0)] dX9_takeDraft_81 rfl (by decide) rfl ?_
        refine r_jn 116 (fun (t16 : Unit) => [(0, .ref (x_b X + a))]) (fun (t16 : Unit) => []) (fun t16 => ?_) ?_
        · refine r_iconst (pc := 116) C dX9_takeDraft_116 ki_0 ?_
          refine r_sti_n (pc := 117) C 1 [(0, .ref (x_b X + a)), (1, .int 0)] dX9_takeDraft_117 rfl (by decide) rfl ?_
          refine r_jn 163 (fun (t23 : Unit) => [(0, .ref (x_b X + a))]) (fun (t23 : Unit) => []) (fun t23 => ?_) ?_
          · refine r_aload_n (pc := 163) C dX9_takeDraft_163 rfl rfl ?_
            refine r_iconst (pc := 164) C dX9_takeDraft_164 ki_0 ?_
            refine r_putI (pc := 165) C dX9_takeDraft_165 fl_X9_136 rfl rfl ?_
            refine r_aload_n (pc := 168) C dX9_takeDraft_168 rfl rfl ?_
            refine r_getA (pc := 169) C dX9_takeDraft_169 fl_X9_42 rfl (fun v32 => ?_)
            refine r_iconst (pc := 172) C dX9_takeDraft_172 ki_0 ?_
            refine r_iconst (pc := 173) C dX9_takeDraft_173 ki_0 ?_
            refine r_zast (pc := 174) C dX9_takeDraft_174 ?_
            refine r_aload_n (pc := 175) C dX9_takeDraft_175 rfl rfl ?_
            refine r_getA (pc := 176) C dX9_takeDraft_176 fl_X9_42 rfl (fun v33 => ?_)
            refine r_iconst (pc := 179) C dX9_takeDraft_179 ki_1 ?_
            refine r_iconst (pc := 180) C dX9_takeDraft_180 ki_0 ?_
            refine r_zast (pc := 181) C dX9_takeDraft_181 ?_
            exact r_vret (pc := 182) C dX9_takeDraft_182
          · refine r_sub [(0, .ref (x_b X + a)), (1, .int 0)] rfl ?_
            refine r_lp (pc := 118) (fun (t24 : Int32) => [(0, .ref (x_b X + a)), (1, .int t24)]) (fun t24 => ?_) 0
            refine r_iload_n (pc := 118) C dX9_takeDraft_118 rfl rfl ?_
            refine r_aload_n (pc := 119) C dX9_takeDraft_119 rfl rfl ?_
            refine r_getA (pc := 120) C dX9_takeDraft_120 fl_X9_17 rfl (fun v25 => ?_)
            refine r_iconst (pc := 123) C dX9_takeDraft_123 ki_1 ?_
            refine r_iald (pc := 124) C dX9_takeDraft_124 (fun v26 => ?_)
            refine r_icmp_ge (pc := 125) C (tgt := 163) dX9_takeDraft_125 rfl (fun _ => ?_) (fun _ => ?_)
            · refine r_sub [(0, .ref (x_b X + a))] rfl ?_
              exact r_up (r_br (τ := Unit) ())
            · refine r_aload_n (pc := 128) C dX9_takeDraft_128 rfl rfl ?_
              refine r_iload_n (pc := 129) C dX9_takeDraft_129 rfl rfl ?_
              refine r_iconst (pc := 130) C dX9_takeDraft_130 ki_0 ?_
              refine r_aload_n (pc := 131) C dX9_takeDraft_131 rfl rfl ?_
              refine r_getA (pc := 132) C dX9_takeDraft_132 fl_X9_17 rfl (fun v27 => ?_)
              refine r_bipush (pc := 135) C dX9_takeDraft_135 kb_42 ?_
              refine r_iload_n (pc := 137) C dX9_takeDraft_137 rfl rfl ?_
              refine r_iadd (pc := 138) C dX9_takeDraft_138 ?_
              refine r_iald (pc := 139) C dX9_takeDraft_139 (fun v28 => ?_)
              refine r_cVV (pc := 140) C [.int t24, .int 0, .int v28] [] (z_KX.up (z_KX.up (z_KX.zero hT))) (s_X9_put a t24 0 v28) mt_X9_put zc_9 dX9_takeDraft_140 ml_X9_132 im_X9_put se_X9_put rfl rfl rfl (Nat.le_of_ble_eq_true rfl) ⟨Nat.le_of_ble_eq_true rfl, Nat.le_of_ble_eq_true rfl⟩ ?_
              refine r_aload_n (pc := 143) C dX9_takeDraft_143 rfl rfl ?_
              refine r_iload_n (pc := 144) C dX9_takeDraft_144 rfl rfl ?_
              refine r_iconst (pc := 145) C dX9_takeDraft_145 ki_1 ?_
              refine r_iconst (pc := 146) C dX9_takeDraft_146 ki_m1 ?_
              refine r_cVV (pc := 147) C [.int t24, .int 1, .int (-1)] [] (z_KX.up (z_KX.up (z_KX.zero hT))) (s_X9_put a t24 1 (-1)) mt_X9_put zc_9 dX9_takeDraft_147 ml_X9_132 im_X9_put se_X9_put rfl rfl rfl (Nat.le_of_ble_eq_true rfl) ⟨Nat.le_of_ble_eq_true rfl, Nat.le_of_ble_eq_true rfl⟩ ?_
              refine r_aload_n (pc := 150) C dX9_takeDraft_150 rfl rfl ?_
              refine r_iload_n (pc := 151) C dX9_takeDraft_151 rfl rfl ?_
              refine r_iconst (pc := 152) C dX9_takeDraft_152 ki_2 ?_
              refine r_iconst (pc := 153) C dX9_takeDraft_153 ki_m1 ?_
              refine r_cVV (pc := 154) C [.int t24, .int 2, .int (-1)] [] (z_KX.up (z_KX.up (z_KX.zero hT))) (s_X9_put a t24 2 (-1)) mt_X9_put zc_9 dX9_takeDraft_154 ml_X9_132 im_X9_put se_X9_put rfl rfl rfl (Nat.le_of_ble_eq_true rfl) ⟨Nat.le_of_ble_eq_true rfl, Nat.le_of_ble_eq_true rfl⟩ ?_
              refine r_inc (pc := 157) C 1 [(0, .ref (x_b X + a)), (1, .int (t24 + 1))] dX9_takeDraft_157 rfl ki_1 (by decide) rfl ?_
              refine r_goto (pc := 160) C (tgt := 118) dX9_takeDraft_160 rfl ?_
              refine r_sub [(0, .ref (x_b X + a)), (1, .int (t24 + 1))] rfl ?_
              exact r_br (τ := Int32) ((t24 + 1))
        · refine r_sub [(0, .ref (x_b X + a)), (1, .int 0)] rfl ?_
          refine r_lp (pc := 82) (fun (t17 : Int32) => [(0, .ref (x_b X + a)), (1, .int t17)]) (fun t17 => ?_) 0
          refine r_iload_n (pc := 82) C dX9_takeDraft_82 rfl rfl ?_
          refine r_aload_n (pc := 83) C dX9_takeDraft_83 rfl rfl ?_
          refine r_getA (pc := 84) C dX9_takeDraft_84 fl_X9_17 rfl (fun v18 => ?_)
          refine r_iconst (pc := 87) C dX9_takeDraft_87 ki_0 ?_
          refine r_iald (pc := 88) C dX9_takeDraft_88 (fun v19 => ?_)
          refine r_icmp_ge (pc := 89) C (tgt := 116) dX9_takeDraft_89 rfl (fun _ => ?_) (fun _ => ?_)
          · refine r_sub [(0, .ref (x_b X + a))] rfl ?_
            exact r_up (r_br (τ := Unit) ())
          · refine r_aload_n (pc := 92) C dX9_takeDraft_92 rfl rfl ?_
            refine r_getA (pc := 93) C dX9_takeDraft_93 fl_X9_32 rfl (fun v20 => ?_)
            refine r_bipush (pc := 96) C dX9_takeDraft_96 kb_6 ?_
            refine r_iload_n (pc := 98) C dX9_takeDraft_98 rfl rfl ?_
            refine r_iadd (pc := 99) C dX9_takeDraft_99 ?_
            refine r_aload_n (pc := 100) C dX9_takeDraft_100 rfl rfl ?_
            refine r_getA (pc := 101) C dX9_takeDraft_101 fl_X9_17 rfl (fun v21 => ?_)
            refine r_bipush (pc := 104) C dX9_takeDraft_104 kb_34 ?_
            refine r_iload_n (pc := 106) C dX9_takeDraft_106 rfl rfl ?_
            refine r_iadd (pc := 107) C dX9_takeDraft_107 ?_
            refine r_iald (pc := 108) C dX9_takeDraft_108 (fun v22 => ?_)
            refine r_iast (pc := 109) C dX9_takeDraft_109 ?_
            refine r_inc (pc := 110) C 1 [(0, .ref (x_b X + a)), (1, .int (t17 + 1))] dX9_takeDraft_110 rfl ki_1 (by decide) rfl ?_
            refine r_goto (pc := 113) C (tgt := 82) dX9_takeDraft_113 rfl ?_
            refine r_sub [(0, .ref (x_b X + a)), (1, .int (t17 + 1))] rfl ?_
            exact r_br (τ := Int32) ((t17 + 1))
      · refine r_sub [(0, .ref (x_b X + a)), (1, .int 0)] rfl ?_
        refine r_lp (pc := 60) (fun (t14 : Int32) => [(0, .ref (x_b X + a)), (1, .int t14)]) (fun t14 => ?_) 0
        refine r_iload_n (pc := 60) C dX9_takeDraft_60 rfl rfl ?_
        refine r_sipush (pc := 61) C dX9_takeDraft_61 ks_3277 ?_
        refine r_icmp_ge (pc := 64) C (tgt := 80) dX9_takeDraft_64 rfl (fun _ => ?_) (fun _ => ?_)
        · refine r_sub [(0, .ref (x_b X + a))] rfl ?_
          exact r_up (r_br (τ := Unit) ())
        · refine r_aload_n (pc := 67) C dX9_takeDraft_67 rfl rfl ?_
          refine r_getA (pc := 68) C dX9_takeDraft_68 fl_X9_32 rfl (fun v15 => ?_)
          refine r_iload_n (pc := 71) C dX9_takeDraft_71 rfl rfl ?_
          refine r_iconst (pc := 72) C dX9_takeDraft_72 ki_0 ?_
          refine r_iast (pc := 73) C dX9_takeDraft_73 ?_
          refine r_inc (pc := 74) C 1 [(0, .ref (x_b X + a)), (1, .int (t14 + 1))] dX9_takeDraft_74 rfl ki_1 (by decide) rfl ?_
          refine r_goto (pc := 77) C (tgt := 60) dX9_takeDraft_77 rfl ?_
          refine r_sub [(0, .ref (x_b X + a)), (1, .int (t14 + 1))] rfl ?_
          exact r_br (τ := Int32) ((t14 + 1))
    · refine r_sub [(0, .ref (x_b X + a)), (1, .int 0)] rfl ?_
      refine r_lp (pc := 29) (fun (t7 : Int32) => [(0, .ref (x_b X + a)), (1, .int t7)]) (fun t7 => ?_) 0
      refine r_iload_n (pc := 29) C dX9_takeDraft_29 rfl rfl ?_
      refine r_aload_n (pc := 30) C dX9_takeDraft_30 rfl rfl ?_
      refine r_getA (pc := 31) C dX9_takeDraft_31 fl_X9_13 rfl (fun v8 => ?_)
      refine r_bipush (pc := 34) C dX9_takeDraft_34 kb_8 ?_
      refine r_iald (pc := 36) C dX9_takeDraft_36 (fun v9 => ?_)
      refine r_icmp_ge (pc := 37) C (tgt := 58) dX9_takeDraft_37 rfl (fun _ => ?_) (fun _ => ?_)
      · refine r_sub [(0, .ref (x_b X + a))] rfl ?_
        exact r_up (r_br (τ := Unit) ())
      · refine r_aload_n (pc := 40) C dX9_takeDraft_40 rfl rfl ?_
        refine r_getA (pc := 41) C dX9_takeDraft_41 fl_X9_23 rfl (fun v10 => ?_)
        refine r_iload_n (pc := 44) C dX9_takeDraft_44 rfl rfl ?_
        refine r_aload_n (pc := 45) C dX9_takeDraft_45 rfl rfl ?_
        refine r_getA (pc := 46) C dX9_takeDraft_46 fl_X9_20 rfl (fun v11 => ?_)
        refine r_iload_n (pc := 49) C dX9_takeDraft_49 rfl rfl ?_
        refine r_iald (pc := 50) C dX9_takeDraft_50 (fun v12 => ?_)
        refine r_iast (pc := 51) C dX9_takeDraft_51 ?_
        refine r_inc (pc := 52) C 1 [(0, .ref (x_b X + a)), (1, .int (t7 + 1))] dX9_takeDraft_52 rfl ki_1 (by decide) rfl ?_
        refine r_goto (pc := 55) C (tgt := 29) dX9_takeDraft_55 rfl ?_
        refine r_sub [(0, .ref (x_b X + a)), (1, .int (t7 + 1))] rfl ?_
        exact r_br (τ := Int32) ((t7 + 1))
  · refine r_sub [(0, .ref (x_b X + a)), (1, .int 0)] rfl ?_
    refine r_lp (pc := 2) (fun (t2 : Int32) => [(0, .ref (x_b X + a)), (1, .int t2)]) (fun t2 => ?_) 0
    refine r_iload_n (pc := 2) C dX9_takeDraft_2 rfl rfl ?_
    refine r_sipush (pc := 3) C dX9_takeDraft_3 ks_138 ?_
    refine r_icmp_ge (pc := 6) C (tgt := 27) dX9_takeDraft_6 rfl (fun _ => ?_) (fun _ => ?_)
    · refine r_sub [(0, .ref (x_b X + a))] rfl ?_
      exact r_up (r_br (τ := Unit) ())
    · refine r_aload_n (pc := 9) C dX9_takeDraft_9 rfl rfl ?_
      refine r_getA (pc := 10) C dX9_takeDraft_10 fl_X9_17 rfl (fun v3 => ?_)
      refine r_iload_n (pc := 13) C dX9_takeDraft_13 rfl rfl ?_
      refine r_aload_n (pc := 14) C dX9_takeDraft_14 rfl rfl ?_
      refine r_getA (pc := 15) C dX9_takeDraft_15 fl_X9_13 rfl (fun v4 => ?_)
      refine r_iload_n (pc := 18) C dX9_takeDraft_18 rfl rfl ?_
      refine r_iald (pc := 19) C dX9_takeDraft_19 (fun v5 => ?_)
      refine r_iast (pc := 20) C dX9_takeDraft_20 ?_
      refine r_inc (pc := 21) C 1 [(0, .ref (x_b X + a)), (1, .int (t2 + 1))] dX9_takeDraft_21 rfl ki_1 (by decide) rfl ?_
      refine r_goto (pc := 24) C (tgt := 2) dX9_takeDraft_24 rfl ?_
      refine r_sub [(0, .ref (x_b X + a)), (1, .int (t2 + 1))] rfl ?_
      exact r_br (τ := Int32) ((t2 + 1))
noncomputable def p_X9_init (a : Nat) : zP Unit := (z_bd (z_na 10 700) (fun q1 => (z_bd (z_pR 9 a 1 (some q1)) (fun _ => (z_bd (z_na 11 138) (fun q2 => (z_bd (z_pR 9 a 10 (some q2)) (fun _ => (z_bd (z_na 11 138) (fun q3 => (z_bd (z_pR 9 a 11 (some q3)) (fun _ => (z_bd (z_na 11 700) (fun q4 => (z_bd (z_pR 9 a 12 (some q4)) (fun _ => (z_bd (z_na 11 700) (fun q5 => (z_bd (z_pR 9 a 13 (some q5)) (fun _ => (z_bd (z_na 11 700) (fun q6 => (z_bd (z_pR 9 a 15 (some q6)) (fun _ => (z_bd (z_na 11 700) (fun q7 => (z_bd (z_pR 9 a 18 (some q7)) (fun _ => (z_bd (z_na 11 3277) (fun q8 => (z_bd (z_pR 9 a 19 (some q8)) (fun _ => (z_bd (z_na 11 32770) (fun q9 => (z_bd (z_pR 9 a 20 (some q9)) (fun _ => (z_bd (z_na 11 6554) (fun q10 => (z_bd (z_pR 9 a 22 (some q10)) (fun _ => (z_bd (z_na 12 2) (fun q11 => (z_bd (z_pR 9 a 23 (some q11)) (fun _ => (z_bd (z_na 11 3277) (fun q12 => (z_bd (z_pR 9 a 24 (some q12)) (fun _ => (z_bd (z_na 11 8) (fun q13 => (z_bd (z_pR 9 a 25 (some q13)) (fun _ => (z_bd (z_na 11 8) (fun q14 => (z_bd (z_pR 9 a 26 (some q14)) (fun _ => (z_bd (z_na 11 9) (fun q15 => (z_bd (z_pR 9 a 29 (some q15)) (fun _ => (z_bd (z_na 11 9) (fun q16 => (z_bd (z_pR 9 a 30 (some q16)) (fun _ => (z_bd (z_na 11 9) (fun q17 => (z_bd (z_pR 9 a 31 (some q17)) (fun _ => (z_bd (z_na 11 9) (fun q18 => (z_bd (z_pR 9 a 32 (some q18)) (fun _ => (z_bd (z_na 11 9) (fun q19 => (z_bd (z_pR 9 a 33 (some q19)) (fun _ => (z_bd (z_cv 9 a (p_X9_setDefaults a)) (fun _ => (z_bd (z_cv 9 a (p_X9_takeDraft a)) (fun _ => (z_pu ())))))))))))))))))))))))))))))))))))))))))))))))))))))))))))))))))))))))))))))))))
set_option maxHeartbeats 4000000 in
set_option maxRecDepth 100000 in
theorem s_X9_init (a : Nat) : z_Sound yX9_init cX9_init 1 none 3 64 (fun D b => [.ref (b + a)]) z_ivV (p_X9_init a) := by
  refine z_ofSim rfl (by intro D b; exact Nat.le_of_ble_eq_true rfl) (fun X C hT => ?_)
  unfold p_X9_init
  refine r_sub [(0, .ref (x_b X + a))] rfl ?_
  refine r_aload_n (pc := 0) C dX9_init_0 rfl rfl ?_
  refine r_objInit (pc := 1) C dX9_init_1 ml_X9_1 im_obj cd_obj (Nat.le_of_ble_eq_true rfl) (Nat.le_of_ble_eq_true rfl) ?_
  refine r_aload_n (pc := 4) C dX9_init_4 rfl rfl ?_
  refine r_sipush (pc := 5) C dX9_init_5 ks_700 ?_
  refine r_newa (pc := 8) C (c := 10) (by decide) dX9_init_8 ac_byte (fun q1 => ?_)
  refine r_putA (pc := 10) C dX9_init_10 fl_X9_7 rfl (Or.inr ⟨rfl, rfl⟩) ?_
  refine r_aload_n (pc := 13) C dX9_init_13 rfl rfl ?_
  refine r_sipush (pc := 14) C dX9_init_14 ks_138 ?_
  refine r_newa (pc := 17) C (c := 11) (by decide) dX9_init_17 ac_int (fun q2 => ?_)
  refine r_putA (pc := 19) C dX9_init_19 fl_X9_13 rfl (Or.inr ⟨rfl, rfl⟩) ?_
  refine r_aload_n (pc := 22) C dX9_init_22 rfl rfl ?_
  refine r_sipush (pc := 23) C dX9_init_23 ks_138 ?_
  refine r_newa (pc := 26) C (c := 11) (by decide) dX9_init_26 ac_int (fun q3 => ?_)
  refine r_putA (pc := 28) C dX9_init_28 fl_X9_17 rfl (Or.inr ⟨rfl, rfl⟩) ?_
  refine r_aload_n (pc := 31) C dX9_init_31 rfl rfl ?_
  refine r_sipush (pc := 32) C dX9_init_32 ks_700 ?_
  refine r_newa (pc := 35) C (c := 11) (by decide) dX9_init_35 ac_int (fun q4 => ?_)
  refine r_putA (pc := 37) C dX9_init_37 fl_X9_20 rfl (Or.inr ⟨rfl, rfl⟩) ?_
  refine r_aload_n (pc := 40) C dX9_init_40 rfl rfl ?_
  refine r_sipush (pc := 41) C dX9_init_41 ks_700 ?_
  refine r_newa (pc := 44) C (c := 11) (by decide) dX9_init_44 ac_int (fun q5 => ?_)
  refine r_putA (pc := 46) C dX9_init_46 fl_X9_23 rfl (Or.inr ⟨rfl, rfl⟩) ?_
  refine r_aload_n (pc := 49) C dX9_init_49 rfl rfl ?_
  refine r_sipush (pc := 50) C dX9_init_50 ks_700 ?_
  refine r_newa (pc := 53) C (c := 11) (by decide) dX9_init_53 ac_int (fun q6 => ?_)
  refine r_putA (pc := 55) C dX9_init_55 fl_X9_26 rfl (Or.inr ⟨rfl, rfl⟩) ?_
  refine r_aload_n (pc := 58) C dX9_init_58 rfl rfl ?_
  refine r_sipush (pc := 59) C dX9_init_59 ks_700 ?_
  refine r_newa (pc := 62) C (c := 11) (by decide) dX9_init_62 ac_int (fun q7 => ?_)
  refine r_putA (pc := 64) C dX9_init_64 fl_X9_29 rfl (Or.inr ⟨rfl, rfl⟩) ?_
  refine r_aload_n (pc := 67) C dX9_init_67 rfl rfl ?_
  refine r_sipush (pc := 68) C dX9_init_68 ks_3277 ?_
  refine r_newa (pc := 71) C (c := 11) (by decide) dX9_init_71 ac_int (fun q8 => ?_)
  refine r_putA (pc := 73) C dX9_init_73 fl_X9_32 rfl (Or.inr ⟨rfl, rfl⟩) ?_
  refine r_aload_n (pc := 76) C dX9_init_76 rfl rfl ?_
  refine r_ldc (pc := 77) C dX9_init_77 kc_X9_35 ?_
  refine r_newa (pc := 79) C (c := 11) (by decide) dX9_init_79 ac_int (fun q9 => ?_)
  refine r_putA (pc := 81) C dX9_init_81 fl_X9_36 rfl (Or.inr ⟨rfl, rfl⟩) ?_
  refine r_aload_n (pc := 84) C dX9_init_84 rfl rfl ?_
  refine r_sipush (pc := 85) C dX9_init_85 ks_6554 ?_
  refine r_newa (pc := 88) C (c := 11) (by decide) dX9_init_88 ac_int (fun q10 => ?_)
  refine r_putA (pc := 90) C dX9_init_90 fl_X9_39 rfl (Or.inr ⟨rfl, rfl⟩) ?_
  refine r_aload_n (pc := 93) C dX9_init_93 rfl rfl ?_
  refine r_iconst (pc := 94) C dX9_init_94 ki_2 ?_
  refine r_newa (pc := 95) C (c := 12) (by decide) dX9_init_95 ac_boolean (fun q11 => ?_)
  refine r_putA (pc := 97) C dX9_init_97 fl_X9_42 rfl (Or.inr ⟨rfl, rfl⟩) ?_
  refine r_aload_n (pc := 100) C dX9_init_100 rfl rfl ?_
  refine r_sipush (pc := 101) C dX9_init_101 ks_3277 ?_
  refine r_newa (pc := 104) C (c := 11) (by decide) dX9_init_104 ac_int (fun q12 => ?_)
  refine r_putA (pc := 106) C dX9_init_106 fl_X9_46 rfl (Or.inr ⟨rfl, rfl⟩) ?_
  refine r_aload_n (pc := 109) C dX9_init_109 rfl rfl ?_
  refine r_bipush (pc := 110) C dX9_init_110 kb_8 ?_
  refine r_newa (pc := 112) C (c := 11) (by decide) dX9_init_112 ac_int (fun q13 => ?_)
  refine r_putA (pc := 114) C dX9_init_114 fl_X9_49 rfl (Or.inr ⟨rfl, rfl⟩) ?_
  refine r_aload_n (pc := 117) C dX9_init_117 rfl rfl ?_
  refine r_bipush (pc := 118) C dX9_init_118 kb_8 ?_
  refine r_newa (pc := 120) C (c := 11) (by decide) dX9_init_120 ac_int (fun q14 => ?_)
  refine r_putA (pc := 122) C dX9_init_122 fl_X9_52 rfl (Or.inr ⟨rfl, rfl⟩) ?_
  refine r_aload_n (pc := 125) C dX9_init_125 rfl rfl ?_
  refine r_bipush (pc := 126) C dX9_init_126 kb_9 ?_
  refine r_newa (pc := 128) C (c := 11) (by decide) dX9_init_128 ac_int (fun q15 => ?_)
  refine r_putA (pc := 130) C dX9_init_130 fl_X9_55 rfl (Or.inr ⟨rfl, rfl⟩) ?_
  refine r_aload_n (pc := 133) C dX9_init_133 rfl rfl ?_
  refine r_bipush (pc := 134) C dX9_init_134 kb_9 ?_
  refine r_newa (pc := 136) C (c := 11) (by decide) dX9_init_136 ac_int (fun q16 => ?_)
  refine r_putA (pc := 138) C dX9_init_138 fl_X9_58 rfl (Or.inr ⟨rfl, rfl⟩) ?_
  refine r_aload_n (pc := 141) C dX9_init_141 rfl rfl ?_
  refine r_bipush (pc := 142) C dX9_init_142 kb_9 ?_
  refine r_newa (pc := 144) C (c := 11) (by decide) dX9_init_144 ac_int (fun q17 => ?_)
  refine r_putA (pc := 146) C dX9_init_146 fl_X9_61 rfl (Or.inr ⟨rfl, rfl⟩) ?_
  refine r_aload_n (pc := 149) C dX9_init_149 rfl rfl ?_
  refine r_bipush (pc := 150) C dX9_init_150 kb_9 ?_
  refine r_newa (pc := 152) C (c := 11) (by decide) dX9_init_152 ac_int (fun q18 => ?_)
  refine r_putA (pc := 154) C dX9_init_154 fl_X9_64 rfl (Or.inr ⟨rfl, rfl⟩) ?_
  refine r_aload_n (pc := 157) C dX9_init_157 rfl rfl ?_
  refine r_bipush (pc := 158) C dX9_init_158 kb_9 ?_
  refine r_newa (pc := 160) C (c := 11) (by decide) dX9_init_160 ac_int (fun q19 => ?_)
  refine r_putA (pc := 162) C dX9_init_162 fl_X9_67 rfl (Or.inr ⟨rfl, rfl⟩) ?_
  refine r_aload_n (pc := 165) C dX9_init_165 rfl rfl ?_
  refine r_cVV (pc := 166) C [] [] (z_KX.zero hT) (s_X9_setDefaults a) mt_X9_setDefaults zc_9 dX9_init_166 ml_X9_70 im_X9_setDefaults se_X9_setDefaults rfl rfl rfl (Nat.le_of_ble_eq_true rfl) ⟨Nat.le_of_ble_eq_true rfl, Nat.le_of_ble_eq_true rfl⟩ ?_
  refine r_aload_n (pc := 169) C dX9_init_169 rfl rfl ?_
  refine r_cVV (pc := 170) C [] [] (z_KX.zero hT) (s_X9_takeDraft a) mt_X9_takeDraft zc_9 dX9_init_170 ml_X9_73 im_X9_takeDraft se_X9_takeDraft rfl rfl rfl (Nat.le_of_ble_eq_true rfl) ⟨Nat.le_of_ble_eq_true rfl, Nat.le_of_ble_eq_true rfl⟩ ?_
  exact r_vret (pc := 173) C dX9_init_173
noncomputable def p_X9_thrown (a : Nat) : zP Int32 := (z_bd (z_gI 9 a 0) (fun v1 => (z_pu v1)))
set_option maxHeartbeats 4000000 in
set_option maxRecDepth 100000 in
theorem s_X9_thrown (a : Nat) : z_Sound yX9_thrown cX9_thrown 1 (some .int) 1 20 (fun D b => [.ref (b + a)]) z_ivI (p_X9_thrown a) := by
  refine z_ofSim rfl (by intro D b; exact Nat.le_of_ble_eq_true rfl) (fun X C hT => ?_)
  unfold p_X9_thrown
  refine r_sub [(0, .ref (x_b X + a))] rfl ?_
  refine r_aload_n (pc := 0) C dX9_thrown_0 rfl rfl ?_
  refine r_getI (pc := 1) C dX9_thrown_1 fl_X9_76 rfl (fun v1 => ?_)
  exact r_iret (pc := 4) C dX9_thrown_4
noncomputable def p_X9_within (p1 : Int32) (p2 : Int32) (p3 : Int32) : zP Int32 := (if p1 < p2 then (z_pu 0) else (if p3 < p1 then (z_pu 0) else (z_pu 1)))
set_option maxHeartbeats 4000000 in
set_option maxRecDepth 100000 in
theorem s_X9_within (p1 : Int32) (p2 : Int32) (p3 : Int32) : z_Sound yX9_within cX9_within 3 (some .boolean) 1 20 (fun D b => [.int p1, .int p2, .int p3]) z_ivI (p_X9_within p1 p2 p3) := by
  refine z_ofSim rfl (by intro D b; exact Nat.le_of_ble_eq_true rfl) (fun X C hT => ?_)
  unfold p_X9_within
  refine r_sub [(0, .int p1), (1, .int p2), (2, .int p3)] rfl ?_
  refine r_iload_n (pc := 0) C dX9_within_0 rfl rfl ?_
  refine r_iload_n (pc := 1) C dX9_within_1 rfl rfl ?_
  refine r_icmp_lt (pc := 2) C (tgt := 14) dX9_within_2 rfl (fun _ => ?_) (fun _ => ?_)
  · refine r_iconst (pc := 14) C dX9_within_14 ki_0 ?_
    exact r_zret1 (pc := 15) C dX9_within_15 (by decide)
  · refine r_iload_n (pc := 5) C dX9_within_5 rfl rfl ?_
    refine r_iload_n (pc := 6) C dX9_within_6 rfl rfl ?_
    refine r_icmp_gt (pc := 7) C (tgt := 14) dX9_within_7 rfl (fun _ => ?_) (fun _ => ?_)
    · refine r_iconst (pc := 14) C dX9_within_14 ki_0 ?_
      exact r_zret1 (pc := 15) C dX9_within_15 (by decide)
    · refine r_iconst (pc := 10) C dX9_within_10 ki_1 ?_
      refine r_goto (pc := 11) C (tgt := 15) dX9_within_11 rfl ?_
      exact r_zret1 (pc := 15) C dX9_within_15 (by decide)
noncomputable def p_X9_absolute (p1 : Int32) : zP Int32 := (if 0 ≤ p1 then (z_pu p1) else (z_pu (-p1)))
set_option maxHeartbeats 4000000 in
set_option maxRecDepth 100000 in
theorem s_X9_absolute (p1 : Int32) : z_Sound yX9_absolute cX9_absolute 1 (some .int) 1 20 (fun D b => [.int p1]) z_ivI (p_X9_absolute p1) := by
  refine z_ofSim rfl (by intro D b; exact Nat.le_of_ble_eq_true rfl) (fun X C hT => ?_)
  unfold p_X9_absolute
  refine r_sub [(0, .int p1)] rfl ?_
  refine r_iload_n (pc := 0) C dX9_absolute_0 rfl rfl ?_
  refine r_if_ge (pc := 1) C (tgt := 9) dX9_absolute_1 rfl (fun _ => ?_) (fun _ => ?_)
  · refine r_iload_n (pc := 9) C dX9_absolute_9 rfl rfl ?_
    exact r_iret (pc := 10) C dX9_absolute_10
  · refine r_iload_n (pc := 4) C dX9_absolute_4 rfl rfl ?_
    refine r_ineg (pc := 5) C dX9_absolute_5 ?_
    refine r_goto (pc := 6) C (tgt := 10) dX9_absolute_6 rfl ?_
    exact r_iret (pc := 10) C dX9_absolute_10
noncomputable def p_X9_fail (a : Nat) (p1 : Int32) : zP Int32 := (z_bd (z_pI 9 a 0 p1) (fun _ => (z_pu 0)))
set_option maxHeartbeats 4000000 in
set_option maxRecDepth 100000 in
theorem s_X9_fail (a : Nat) (p1 : Int32) : z_Sound yX9_fail cX9_fail 2 (some .int) 1 20 (fun D b => [.ref (b + a), .int p1]) z_ivI (p_X9_fail a p1) := by
  refine z_ofSim rfl (by intro D b; exact Nat.le_of_ble_eq_true rfl) (fun X C hT => ?_)
  unfold p_X9_fail
  refine r_sub [(0, .ref (x_b X + a)), (1, .int p1)] rfl ?_
  refine r_aload_n (pc := 0) C dX9_fail_0 rfl rfl ?_
  refine r_iload_n (pc := 1) C dX9_fail_1 rfl rfl ?_
  refine r_putI (pc := 2) C dX9_fail_2 fl_X9_76 rfl rfl ?_
  refine r_iconst (pc := 5) C dX9_fail_5 ki_0 ?_
  exact r_iret (pc := 6) C dX9_fail_6
noncomputable def p_X9_told (a : Nat) (p1 : Int32) : zP Int32 := (z_bd (z_pI 9 a 0 0) (fun _ => (z_pu p1)))
set_option maxHeartbeats 4000000 in
set_option maxRecDepth 100000 in
theorem s_X9_told (a : Nat) (p1 : Int32) : z_Sound yX9_told cX9_told 2 (some .int) 1 20 (fun D b => [.ref (b + a), .int p1]) z_ivI (p_X9_told a p1) := by
  refine z_ofSim rfl (by intro D b; exact Nat.le_of_ble_eq_true rfl) (fun X C hT => ?_)
  unfold p_X9_told
  refine r_sub [(0, .ref (x_b X + a)), (1, .int p1)] rfl ?_
  refine r_aload_n (pc := 0) C dX9_told_0 rfl rfl ?_
  refine r_iconst (pc := 1) C dX9_told_1 ki_0 ?_
  refine r_putI (pc := 2) C dX9_told_2 fl_X9_76 rfl rfl ?_
  refine r_iload_n (pc := 5) C dX9_told_5 rfl rfl ?_
  exact r_iret (pc := 6) C dX9_told_6
noncomputable def p_X9_appendInt (a : Nat) (p1 : Int32) : zP Unit := (z_lp (fun (t1 : Int32) => (if t1 < 0 then (z_pu (.inr ())) else (z_bd (z_gA 9 a 1) (fun v2 => (z_bd (z_gI 9 a 2) (fun v3 => (z_bd (z_sB v2 v3 (((p1 >>> (t1 &&& 31)) : Int32).toInt8.toInt32)) (fun _ => (z_bd (z_gI 9 a 2) (fun v4 => (z_bd (z_pI 9 a 2 (v4 + 1)) (fun _ => (z_pu (.inl ((t1 + (-8))))))))))))))))) 24)
set_option maxHeartbeats 4000000 in
set_option maxRecDepth 100000 in
theorem s_X9_appendInt (a : Nat) (p1 : Int32) : z_Sound yX9_appendInt cX9_appendInt 3 none 1 20 (fun D b => [.ref (b + a), .int p1]) z_ivV (p_X9_appendInt a p1) := by
  refine z_ofSim rfl (by intro D b; exact Nat.le_of_ble_eq_true rfl) (fun X C hT => ?_)
  unfold p_X9_appendInt
  refine r_sub [(0, .ref (x_b X + a)), (1, .int p1)] rfl ?_
  refine r_bipush (pc := 0) C dX9_appendInt_0 kb_24 ?_
  refine r_sti_n (pc := 2) C 2 [(0, .ref (x_b X + a)), (1, .int p1), (2, .int 24)] dX9_appendInt_2 rfl (by decide) rfl ?_
  refine r_sub [(0, .ref (x_b X + a)), (1, .int p1), (2, .int 24)] rfl ?_
  refine r_lp (pc := 3) (fun (t1 : Int32) => [(0, .ref (x_b X + a)), (1, .int p1), (2, .int t1)]) (fun t1 => ?_) 24
  refine r_iload_n (pc := 3) C dX9_appendInt_3 rfl rfl ?_
  refine r_if_lt (pc := 4) C (tgt := 36) dX9_appendInt_4 rfl (fun _ => ?_) (fun _ => ?_)
  · exact r_up (r_vret (pc := 36) C dX9_appendInt_36)
  · refine r_aload_n (pc := 7) C dX9_appendInt_7 rfl rfl ?_
    refine r_getA (pc := 8) C dX9_appendInt_8 fl_X9_7 rfl (fun v2 => ?_)
    refine r_aload_n (pc := 11) C dX9_appendInt_11 rfl rfl ?_
    refine r_getI (pc := 12) C dX9_appendInt_12 fl_X9_80 rfl (fun v3 => ?_)
    refine r_iload_n (pc := 15) C dX9_appendInt_15 rfl rfl ?_
    refine r_iload_n (pc := 16) C dX9_appendInt_16 rfl rfl ?_
    refine r_ishr (pc := 17) C dX9_appendInt_17 ?_
    refine r_i2b (pc := 18) C dX9_appendInt_18 ?_
    refine r_bast (pc := 19) C dX9_appendInt_19 ?_
    refine r_aload_n (pc := 20) C dX9_appendInt_20 rfl rfl ?_
    refine r_dup (pc := 21) C dX9_appendInt_21 rfl ?_
    refine r_getI (pc := 22) C dX9_appendInt_22 fl_X9_80 rfl (fun v4 => ?_)
    refine r_iconst (pc := 25) C dX9_appendInt_25 ki_1 ?_
    refine r_iadd (pc := 26) C dX9_appendInt_26 ?_
    refine r_putI (pc := 27) C dX9_appendInt_27 fl_X9_80 rfl rfl ?_
    refine r_inc (pc := 30) C (-8) [(0, .ref (x_b X + a)), (1, .int p1), (2, .int (t1 + (-8)))] dX9_appendInt_30 rfl ki_m8 (by decide) rfl ?_
    refine r_goto (pc := 33) C (tgt := 3) dX9_appendInt_33 rfl ?_
    refine r_sub [(0, .ref (x_b X + a)), (1, .int p1), (2, .int (t1 + (-8)))] rfl ?_
    exact r_br (τ := Int32) ((t1 + (-8)))
noncomputable def p_X9_append (a : Nat) (p1 : Int32) (p2 : Int32) (p3 : Int32) (p4 : Int32) (p5 : Int32) : zP Int32 := (z_bd (z_pI 9 a 0 0) (fun _ => (z_bd (z_gI 9 a 2) (fun v1 => (if (v1 + 20) ≤ 700 then (z_bd (z_cv 9 a (p_X9_appendInt a p1)) (fun _ => (z_bd (z_cv 9 a (p_X9_appendInt a p2)) (fun _ => (z_bd (z_cv 9 a (p_X9_appendInt a p3)) (fun _ => (z_bd (z_cv 9 a (p_X9_appendInt a p4)) (fun _ => (z_bd (z_cv 9 a (p_X9_appendInt a p5)) (fun _ => (z_bd (z_gI 9 a 2) (fun v7 => (z_pu v7))))))))))))) else (z_pu (-1)))))))
set_option maxHeartbeats 4000000 in
set_option maxRecDepth 100000 in
theorem s_X9_append (a : Nat) (p1 : Int32) (p2 : Int32) (p3 : Int32) (p4 : Int32) (p5 : Int32) : z_Sound yX9_append cX9_append 6 (some .int) 2 42 (fun D b => [.ref (b + a), .int p1, .int p2, .int p3, .int p4, .int p5]) z_ivI (p_X9_append a p1 p2 p3 p4 p5) := by
  refine z_ofSim rfl (by intro D b; exact Nat.le_of_ble_eq_true rfl) (fun X C hT => ?_)
  unfold p_X9_append
  refine r_sub [(0, .ref (x_b X + a)), (1, .int p1), (2, .int p2), (3, .int p3), (4, .int p4), (5, .int p5)] rfl ?_
  refine r_aload_n (pc := 0) C dX9_append_0 rfl rfl ?_
  refine r_iconst (pc := 1) C dX9_append_1 ki_0 ?_
  refine r_putI (pc := 2) C dX9_append_2 fl_X9_76 rfl rfl ?_
  refine r_aload_n (pc := 5) C dX9_append_5 rfl rfl ?_
  refine r_getI (pc := 6) C dX9_append_6 fl_X9_80 rfl (fun v1 => ?_)
  refine r_bipush (pc := 9) C dX9_append_9 kb_20 ?_
  refine r_iadd (pc := 11) C dX9_append_11 ?_
  refine r_sipush (pc := 12) C dX9_append_12 ks_700 ?_
  refine r_icmp_le (pc := 15) C (tgt := 20) dX9_append_15 rfl (fun _ => ?_) (fun _ => ?_)
  · refine r_aload_n (pc := 20) C dX9_append_20 rfl rfl ?_
    refine r_iload_n (pc := 21) C dX9_append_21 rfl rfl ?_
    refine r_cVV (pc := 22) C [.int p1] [] (z_KX.zero hT) (s_X9_appendInt a p1) mt_X9_appendInt zc_9 dX9_append_22 ml_X9_83 im_X9_appendInt se_X9_appendInt rfl rfl rfl (Nat.le_of_ble_eq_true rfl) ⟨Nat.le_of_ble_eq_true rfl, Nat.le_of_ble_eq_true rfl⟩ ?_
    refine r_aload_n (pc := 25) C dX9_append_25 rfl rfl ?_
    refine r_iload_n (pc := 26) C dX9_append_26 rfl rfl ?_
    refine r_cVV (pc := 27) C [.int p2] [] (z_KX.zero hT) (s_X9_appendInt a p2) mt_X9_appendInt zc_9 dX9_append_27 ml_X9_83 im_X9_appendInt se_X9_appendInt rfl rfl rfl (Nat.le_of_ble_eq_true rfl) ⟨Nat.le_of_ble_eq_true rfl, Nat.le_of_ble_eq_true rfl⟩ ?_
    refine r_aload_n (pc := 30) C dX9_append_30 rfl rfl ?_
    refine r_iload_n (pc := 31) C dX9_append_31 rfl rfl ?_
    refine r_cVV (pc := 32) C [.int p3] [] (z_KX.zero hT) (s_X9_appendInt a p3) mt_X9_appendInt zc_9 dX9_append_32 ml_X9_83 im_X9_appendInt se_X9_appendInt rfl rfl rfl (Nat.le_of_ble_eq_true rfl) ⟨Nat.le_of_ble_eq_true rfl, Nat.le_of_ble_eq_true rfl⟩ ?_
    refine r_aload_n (pc := 35) C dX9_append_35 rfl rfl ?_
    refine r_iload (pc := 36) C dX9_append_36 rfl ?_
    refine r_cVV (pc := 38) C [.int p4] [] (z_KX.zero hT) (s_X9_appendInt a p4) mt_X9_appendInt zc_9 dX9_append_38 ml_X9_83 im_X9_appendInt se_X9_appendInt rfl rfl rfl (Nat.le_of_ble_eq_true rfl) ⟨Nat.le_of_ble_eq_true rfl, Nat.le_of_ble_eq_true rfl⟩ ?_
    refine r_aload_n (pc := 41) C dX9_append_41 rfl rfl ?_
    refine r_iload (pc := 42) C dX9_append_42 rfl ?_
    refine r_cVV (pc := 44) C [.int p5] [] (z_KX.zero hT) (s_X9_appendInt a p5) mt_X9_appendInt zc_9 dX9_append_44 ml_X9_83 im_X9_appendInt se_X9_appendInt rfl rfl rfl (Nat.le_of_ble_eq_true rfl) ⟨Nat.le_of_ble_eq_true rfl, Nat.le_of_ble_eq_true rfl⟩ ?_
    refine r_aload_n (pc := 47) C dX9_append_47 rfl rfl ?_
    refine r_getI (pc := 48) C dX9_append_48 fl_X9_80 rfl (fun v7 => ?_)
    exact r_iret (pc := 51) C dX9_append_51
  · refine r_iconst (pc := 18) C dX9_append_18 ki_m1 ?_
    exact r_iret (pc := 19) C dX9_append_19
noncomputable def p_X9_byteAt (a : Nat) (p1 : Int32) : zP Int32 := (z_bd (z_gI 9 a 3) (fun v1 => (if v1 ≤ p1 then (z_pu (-1)) else (z_bd (z_gA 9 a 1) (fun v2 => (z_bd (z_aI 10 v2 p1) (fun v3 => (z_pu (v3 &&& 255)))))))))
set_option maxHeartbeats 4000000 in
set_option maxRecDepth 100000 in
theorem s_X9_byteAt (a : Nat) (p1 : Int32) : z_Sound yX9_byteAt cX9_byteAt 2 (some .int) 1 20 (fun D b => [.ref (b + a), .int p1]) z_ivI (p_X9_byteAt a p1) := by
  refine z_ofSim rfl (by intro D b; exact Nat.le_of_ble_eq_true rfl) (fun X C hT => ?_)
  unfold p_X9_byteAt
  refine r_sub [(0, .ref (x_b X + a)), (1, .int p1)] rfl ?_
  refine r_iload_n (pc := 0) C dX9_byteAt_0 rfl rfl ?_
  refine r_aload_n (pc := 1) C dX9_byteAt_1 rfl rfl ?_
  refine r_getI (pc := 2) C dX9_byteAt_2 fl_X9_87 rfl (fun v1 => ?_)
  refine r_icmp_ge (pc := 5) C (tgt := 21) dX9_byteAt_5 rfl (fun _ => ?_) (fun _ => ?_)
  · refine r_iconst (pc := 21) C dX9_byteAt_21 ki_m1 ?_
    exact r_iret (pc := 22) C dX9_byteAt_22
  · refine r_aload_n (pc := 8) C dX9_byteAt_8 rfl rfl ?_
    refine r_getA (pc := 9) C dX9_byteAt_9 fl_X9_7 rfl (fun v2 => ?_)
    refine r_iload_n (pc := 12) C dX9_byteAt_12 rfl rfl ?_
    refine r_bald (pc := 13) C dX9_byteAt_13 (fun v3 => ?_)
    refine r_sipush (pc := 14) C dX9_byteAt_14 ks_255 ?_
    refine r_iand (pc := 17) C dX9_byteAt_17 ?_
    refine r_goto (pc := 18) C (tgt := 22) dX9_byteAt_18 rfl ?_
    exact r_iret (pc := 22) C dX9_byteAt_22
noncomputable def p_X9_nextToken (a : Nat) : zP Unit := (z_bd (z_gI 9 a 5) (fun v1 => (z_bd (z_pI 9 a 4 v1) (fun _ => (z_jn (τ := Unit) (z_lp (fun (t3 : Unit) => (z_bd (z_gI 9 a 4) (fun v4 => (z_bd (z_cv 9 a (p_X9_byteAt a v4)) (fun r5 => (z_jn (τ := Unit) (if r5 = 32 then (z_pu (.inl ())) else (z_bd (z_gI 9 a 4) (fun v7 => (z_bd (z_cv 9 a (p_X9_byteAt a v7)) (fun r8 => (if r8 = 10 then (z_pu (.inl ())) else (z_pu (.inr (.inr (.inl ())))))))))) (fun t6 => (z_bd (z_gI 9 a 4) (fun v9 => (z_bd (z_pI 9 a 4 (v9 + 1)) (fun _ => (z_pu (.inl ()))))))))))))) ()) (fun t2 => (z_bd (z_gI 9 a 4) (fun v10 => (z_bd (z_cv 9 a (p_X9_byteAt a v10)) (fun r11 => (z_bd (z_gI 9 a 4) (fun v12 => (z_bd (z_pI 9 a 5 v12) (fun _ => (z_bd (z_pI 9 a 6 3) (fun _ => (if r11 = (-1) then (z_bd (z_pI 9 a 6 0) (fun _ => (z_pu ()))) else (z_bd (p_X9_within r11 97 122) (fun r13 => (if r13 = 0 then (z_bd (p_X9_within r11 48 57) (fun r14 => (if r14 = 0 then (z_bd (z_gI 9 a 5) (fun v15 => (z_bd (z_pI 9 a 5 (v15 + 1)) (fun _ => (z_jn (τ := Int32) (if r11 = 59 then (z_pu (.inl r11)) else (z_bd (p_X9_within r11 40 43) (fun r17 => (if r17 = 0 then (if r11 = 45 then (z_pu (.inl r11)) else (if r11 = 47 then (z_pu (.inl r11)) else (z_pu (.inl 3)))) else (z_pu (.inl r11)))))) (fun t16 => (z_bd (z_pI 9 a 6 t16) (fun _ => (z_pu ()))))))))) else (z_bd (z_pI 9 a 7 0) (fun _ => (z_jn (τ := Unit) (z_lp (fun (t19 : Unit) => (z_bd (z_gI 9 a 5) (fun v20 => (z_bd (z_cv 9 a (p_X9_byteAt a v20)) (fun r21 => (z_bd (p_X9_within r21 48 57) (fun r22 => (if r22 = 0 then (z_pu (.inr (.inl ()))) else (z_bd (z_gI 9 a 5) (fun v23 => (z_bd (z_gI 9 a 4) (fun v24 => (z_jn (τ := Int32) (if 4 ≤ (v23 - v24) then (z_bd (z_gI 9 a 7) (fun v26 => (z_pu (.inl v26)))) else (z_bd (z_gI 9 a 7) (fun v27 => (z_bd (z_gI 9 a 5) (fun v28 => (z_bd (z_cv 9 a (p_X9_byteAt a v28)) (fun r29 => (z_pu (.inl ((((10 * v27) + r29) - 48))))))))))) (fun t25 => (z_bd (z_pI 9 a 7 t25) (fun _ => (z_bd (z_gI 9 a 5) (fun v30 => (z_bd (z_pI 9 a 5 (v30 + 1)) (fun _ => (z_pu (.inl ())))))))))))))))))))))) ()) (fun t18 => (z_bd (z_gI 9 a 5) (fun v31 => (z_bd (z_gI 9 a 4) (fun v32 => (z_jn (τ := Int32) (if (v31 - v32) ≤ 4 then (z_pu (.inl 2)) else (z_pu (.inl 3))) (fun t33 => (z_bd (z_pI 9 a 6 t33) (fun _ => (z_pu ())))))))))))))))) else (z_jn (τ := Unit) (z_lp (fun (t35 : Unit) => (z_bd (z_gI 9 a 5) (fun v36 => (z_bd (z_cv 9 a (p_X9_byteAt a v36)) (fun r37 => (z_bd (p_X9_within r37 97 122) (fun r38 => (if r38 = 0 then (z_pu (.inr (.inl ()))) else (z_bd (z_gI 9 a 5) (fun v39 => (z_bd (z_pI 9 a 5 (v39 + 1)) (fun _ => (z_pu (.inl ())))))))))))))) ()) (fun t34 => (z_bd (z_gI 9 a 5) (fun v40 => (z_bd (z_gI 9 a 4) (fun v41 => (z_jn (τ := Int32) (if (v40 - v41) ≤ 8 then (z_pu (.inl 1)) else (z_pu (.inl 3))) (fun t42 => (z_bd (z_pI 9 a 6 t42) (fun _ => (z_pu ())))))))))))))))))))))))))))))))
set_option maxHeartbeats 4000000 in
set_option maxRecDepth 100000 in
theorem s_X9_nextToken (a : Nat) : z_Sound yX9_nextToken cX9_nextToken 2 none 2 42 (fun D b => [.ref (b + a)]) z_ivV (p_X9_nextToken a) := by
  refine z_ofSim rfl (by intro D b; exact Nat.le_of_ble_eq_true rfl) (fun X C hT => ?_)
  unfold p_X9_nextToken
  refine r_sub [(0, .ref (x_b X + a))] rfl ?_
  refine r_aload_n (pc := 0) C dX9_nextToken_0 rfl rfl ?_
  refine r_aload_n (pc := 1) C dX9_nextToken_1 rfl rfl ?_
  refine r_getI (pc := 2) C dX9_nextToken_2 fl_X9_90 rfl (fun v1 => ?_)
  refine r_putI (pc := 5) C dX9_nextToken_5 fl_X9_93 rfl rfl ?_
  refine r_jn 47 (fun (t2 : Unit) => [(0, .ref (x_b X + a))]) (fun (t2 : Unit) => []) (fun t2 => ?_) ?_
  · refine r_aload_n (pc := 47) C dX9_nextToken_47 rfl rfl ?_
    refine r_aload_n (pc := 48) C dX9_nextToken_48 rfl rfl ?_
    refine r_getI (pc := 49) C dX9_nextToken_49 fl_X9_93 rfl (fun v10 => ?_)
    refine r_cVI (pc := 52) C [.int v10] [] (z_KX.zero hT) (s_X9_byteAt a v10) mt_X9_byteAt zc_9 dX9_nextToken_52 ml_X9_96 im_X9_byteAt se_X9_byteAt rfl rfl rfl (Nat.le_of_ble_eq_true rfl) ⟨Nat.le_of_ble_eq_true rfl, Nat.le_of_ble_eq_true rfl⟩ (fun r11 => ?_)
    refine r_sti_n (pc := 55) C 1 [(0, .ref (x_b X + a)), (1, .int r11)] dX9_nextToken_55 rfl (by decide) rfl ?_
    refine r_aload_n (pc := 56) C dX9_nextToken_56 rfl rfl ?_
    refine r_aload_n (pc := 57) C dX9_nextToken_57 rfl rfl ?_
    refine r_getI (pc := 58) C dX9_nextToken_58 fl_X9_93 rfl (fun v12 => ?_)
    refine r_putI (pc := 61) C dX9_nextToken_61 fl_X9_90 rfl rfl ?_
    refine r_aload_n (pc := 64) C dX9_nextToken_64 rfl rfl ?_
    refine r_iconst (pc := 65) C dX9_nextToken_65 ki_3 ?_
    refine r_putI (pc := 66) C dX9_nextToken_66 fl_X9_100 rfl rfl ?_
    refine r_iload_n (pc := 69) C dX9_nextToken_69 rfl rfl ?_
    refine r_iconst (pc := 70) C dX9_nextToken_70 ki_m1 ?_
    refine r_icmp_ne (pc := 71) C (tgt := 82) dX9_nextToken_71 rfl (fun _ => ?_) (fun _ => ?_)
    · refine r_aload_n (pc := 74) C dX9_nextToken_74 rfl rfl ?_
      refine r_iconst (pc := 75) C dX9_nextToken_75 ki_0 ?_
      refine r_putI (pc := 76) C dX9_nextToken_76 fl_X9_100 rfl rfl ?_
      refine r_goto (pc := 79) C (tgt := 313) dX9_nextToken_79 rfl ?_
      exact r_vret (pc := 313) C dX9_nextToken_313
    · refine r_iload_n (pc := 82) C dX9_nextToken_82 rfl rfl ?_
      refine r_bipush (pc := 83) C dX9_nextToken_83 kb_97 ?_
      refine r_bipush (pc := 85) C dX9_nextToken_85 kb_122 ?_
      refine r_cSI (pc := 87) C [.int r11, .int 97, .int 122] [] (z_KX.zero hT) (s_X9_within r11 97 122) mt_X9_within dX9_nextToken_87 ml_X9_103 sm_X9_within rfl rfl rfl (Nat.le_of_ble_eq_true rfl) ⟨Nat.le_of_ble_eq_true rfl, Nat.le_of_ble_eq_true rfl⟩ (fun r13 => ?_)
      refine r_if_eq (pc := 90) C (tgt := 150) dX9_nextToken_90 rfl (fun _ => ?_) (fun _ => ?_)
      · refine r_iload_n (pc := 150) C dX9_nextToken_150 rfl rfl ?_
        refine r_bipush (pc := 151) C dX9_nextToken_151 kb_48 ?_
        refine r_bipush (pc := 153) C dX9_nextToken_153 kb_57 ?_
        refine r_cSI (pc := 155) C [.int r11, .int 48, .int 57] [] (z_KX.zero hT) (s_X9_within r11 48 57) mt_X9_within dX9_nextToken_155 ml_X9_103 sm_X9_within rfl rfl rfl (Nat.le_of_ble_eq_true rfl) ⟨Nat.le_of_ble_eq_true rfl, Nat.le_of_ble_eq_true rfl⟩ (fun r14 => ?_)
        refine r_if_eq (pc := 158) C (tgt := 265) dX9_nextToken_158 rfl (fun _ => ?_) (fun _ => ?_)
        · refine r_aload_n (pc := 265) C dX9_nextToken_265 rfl rfl ?_
          refine r_dup (pc := 266) C dX9_nextToken_266 rfl ?_
          refine r_getI (pc := 267) C dX9_nextToken_267 fl_X9_90 rfl (fun v15 => ?_)
          refine r_iconst (pc := 270) C dX9_nextToken_270 ki_1 ?_
          refine r_iadd (pc := 271) C dX9_nextToken_271 ?_
          refine r_putI (pc := 272) C dX9_nextToken_272 fl_X9_90 rfl rfl ?_
          refine r_aload_n (pc := 275) C dX9_nextToken_275 rfl rfl ?_
          refine r_iload_n (pc := 276) C dX9_nextToken_276 rfl rfl ?_
          refine r_bipush (pc := 277) C dX9_nextToken_277 kb_59 ?_
          refine r_jn 310 (fun (t16 : Int32) => []) (fun (t16 : Int32) => [.int t16, .ref (x_b X + a)]) (fun t16 => ?_) ?_
          · refine r_putI (pc := 310) C dX9_nextToken_310 fl_X9_100 rfl rfl ?_
            exact r_vret (pc := 313) C dX9_nextToken_313
          · refine r_icmp_eq (pc := 279) C (tgt := 305) dX9_nextToken_279 rfl (fun _ => ?_) (fun _ => ?_)
            · refine r_iload_n (pc := 305) C dX9_nextToken_305 rfl rfl ?_
              refine r_goto (pc := 306) C (tgt := 310) dX9_nextToken_306 rfl ?_
              refine r_sub [] rfl ?_
              exact r_br (τ := Int32) r11
            · refine r_iload_n (pc := 282) C dX9_nextToken_282 rfl rfl ?_
              refine r_bipush (pc := 283) C dX9_nextToken_283 kb_40 ?_
              refine r_bipush (pc := 285) C dX9_nextToken_285 kb_43 ?_
              refine r_cSI (pc := 287) C [.int r11, .int 40, .int 43] [.ref (x_b X + a)] (z_KX.up (z_KX.zero hT)) (s_X9_within r11 40 43) mt_X9_within dX9_nextToken_287 ml_X9_103 sm_X9_within rfl rfl rfl (Nat.le_of_ble_eq_true rfl) ⟨Nat.le_of_ble_eq_true rfl, Nat.le_of_ble_eq_true rfl⟩ (fun r17 => ?_)
              refine r_if_ne (pc := 290) C (tgt := 305) dX9_nextToken_290 rfl (fun _ => ?_) (fun _ => ?_)
              · refine r_iload_n (pc := 293) C dX9_nextToken_293 rfl rfl ?_
                refine r_bipush (pc := 294) C dX9_nextToken_294 kb_45 ?_
                refine r_icmp_eq (pc := 296) C (tgt := 305) dX9_nextToken_296 rfl (fun _ => ?_) (fun _ => ?_)
                · refine r_iload_n (pc := 305) C dX9_nextToken_305 rfl rfl ?_
                  refine r_goto (pc := 306) C (tgt := 310) dX9_nextToken_306 rfl ?_
                  refine r_sub [] rfl ?_
                  exact r_br (τ := Int32) r11
                · refine r_iload_n (pc := 299) C dX9_nextToken_299 rfl rfl ?_
                  refine r_bipush (pc := 300) C dX9_nextToken_300 kb_47 ?_
                  refine r_icmp_ne (pc := 302) C (tgt := 309) dX9_nextToken_302 rfl (fun _ => ?_) (fun _ => ?_)
                  · refine r_iload_n (pc := 305) C dX9_nextToken_305 rfl rfl ?_
                    refine r_goto (pc := 306) C (tgt := 310) dX9_nextToken_306 rfl ?_
                    refine r_sub [] rfl ?_
                    exact r_br (τ := Int32) r11
                  · refine r_iconst (pc := 309) C dX9_nextToken_309 ki_3 ?_
                    refine r_sub [] rfl ?_
                    exact r_br (τ := Int32) 3
              · refine r_iload_n (pc := 305) C dX9_nextToken_305 rfl rfl ?_
                refine r_goto (pc := 306) C (tgt := 310) dX9_nextToken_306 rfl ?_
                refine r_sub [] rfl ?_
                exact r_br (τ := Int32) r11
        · refine r_aload_n (pc := 161) C dX9_nextToken_161 rfl rfl ?_
          refine r_iconst (pc := 162) C dX9_nextToken_162 ki_0 ?_
          refine r_putI (pc := 163) C dX9_nextToken_163 fl_X9_107 rfl rfl ?_
          refine r_jn 240 (fun (t18 : Unit) => [(0, .ref (x_b X + a))]) (fun (t18 : Unit) => []) (fun t18 => ?_) ?_
          · refine r_aload_n (pc := 240) C dX9_nextToken_240 rfl rfl ?_
            refine r_aload_n (pc := 241) C dX9_nextToken_241 rfl rfl ?_
            refine r_getI (pc := 242) C dX9_nextToken_242 fl_X9_90 rfl (fun v31 => ?_)
            refine r_aload_n (pc := 245) C dX9_nextToken_245 rfl rfl ?_
            refine r_getI (pc := 246) C dX9_nextToken_246 fl_X9_93 rfl (fun v32 => ?_)
            refine r_isub (pc := 249) C dX9_nextToken_249 ?_
            refine r_iconst (pc := 250) C dX9_nextToken_250 ki_4 ?_
            refine r_jn 259 (fun (t33 : Int32) => []) (fun (t33 : Int32) => [.int t33, .ref (x_b X + a)]) (fun t33 => ?_) ?_
            · refine r_putI (pc := 259) C dX9_nextToken_259 fl_X9_100 rfl rfl ?_
              refine r_goto (pc := 262) C (tgt := 313) dX9_nextToken_262 rfl ?_
              exact r_vret (pc := 313) C dX9_nextToken_313
            · refine r_icmp_le (pc := 251) C (tgt := 258) dX9_nextToken_251 rfl (fun _ => ?_) (fun _ => ?_)
              · refine r_iconst (pc := 258) C dX9_nextToken_258 ki_2 ?_
                refine r_sub [] rfl ?_
                exact r_br (τ := Int32) 2
              · refine r_iconst (pc := 254) C dX9_nextToken_254 ki_3 ?_
                refine r_goto (pc := 255) C (tgt := 259) dX9_nextToken_255 rfl ?_
                refine r_sub [] rfl ?_
                exact r_br (τ := Int32) 3
          · refine r_sub [(0, .ref (x_b X + a))] rfl ?_
            refine r_lp (pc := 166) (fun (t19 : Unit) => [(0, .ref (x_b X + a))]) (fun t19 => ?_) ()
            refine r_aload_n (pc := 166) C dX9_nextToken_166 rfl rfl ?_
            refine r_aload_n (pc := 167) C dX9_nextToken_167 rfl rfl ?_
            refine r_getI (pc := 168) C dX9_nextToken_168 fl_X9_90 rfl (fun v20 => ?_)
            refine r_cVI (pc := 171) C [.int v20] [] (z_KX.up (z_KX.up (z_KX.zero hT))) (s_X9_byteAt a v20) mt_X9_byteAt zc_9 dX9_nextToken_171 ml_X9_96 im_X9_byteAt se_X9_byteAt rfl rfl rfl (Nat.le_of_ble_eq_true rfl) ⟨Nat.le_of_ble_eq_true rfl, Nat.le_of_ble_eq_true rfl⟩ (fun r21 => ?_)
            refine r_bipush (pc := 174) C dX9_nextToken_174 kb_48 ?_
            refine r_bipush (pc := 176) C dX9_nextToken_176 kb_57 ?_
            refine r_cSI (pc := 178) C [.int r21, .int 48, .int 57] [] (z_KX.up (z_KX.up (z_KX.zero hT))) (s_X9_within r21 48 57) mt_X9_within dX9_nextToken_178 ml_X9_103 sm_X9_within rfl rfl rfl (Nat.le_of_ble_eq_true rfl) ⟨Nat.le_of_ble_eq_true rfl, Nat.le_of_ble_eq_true rfl⟩ (fun r22 => ?_)
            refine r_if_eq (pc := 181) C (tgt := 240) dX9_nextToken_181 rfl (fun _ => ?_) (fun _ => ?_)
            · refine r_sub [(0, .ref (x_b X + a))] rfl ?_
              exact r_up (r_br (τ := Unit) ())
            · refine r_aload_n (pc := 184) C dX9_nextToken_184 rfl rfl ?_
              refine r_aload_n (pc := 185) C dX9_nextToken_185 rfl rfl ?_
              refine r_getI (pc := 186) C dX9_nextToken_186 fl_X9_90 rfl (fun v23 => ?_)
              refine r_aload_n (pc := 189) C dX9_nextToken_189 rfl rfl ?_
              refine r_getI (pc := 190) C dX9_nextToken_190 fl_X9_93 rfl (fun v24 => ?_)
              refine r_isub (pc := 193) C dX9_nextToken_193 ?_
              refine r_iconst (pc := 194) C dX9_nextToken_194 ki_4 ?_
              refine r_jn 224 (fun (t25 : Int32) => [(0, .ref (x_b X + a))]) (fun (t25 : Int32) => [.int t25, .ref (x_b X + a)]) (fun t25 => ?_) ?_
              · refine r_putI (pc := 224) C dX9_nextToken_224 fl_X9_107 rfl rfl ?_
                refine r_aload_n (pc := 227) C dX9_nextToken_227 rfl rfl ?_
                refine r_dup (pc := 228) C dX9_nextToken_228 rfl ?_
                refine r_getI (pc := 229) C dX9_nextToken_229 fl_X9_90 rfl (fun v30 => ?_)
                refine r_iconst (pc := 232) C dX9_nextToken_232 ki_1 ?_
                refine r_iadd (pc := 233) C dX9_nextToken_233 ?_
                refine r_putI (pc := 234) C dX9_nextToken_234 fl_X9_90 rfl rfl ?_
                refine r_goto (pc := 237) C (tgt := 166) dX9_nextToken_237 rfl ?_
                refine r_sub [(0, .ref (x_b X + a))] rfl ?_
                exact r_br (τ := Unit) ()
              · refine r_icmp_ge (pc := 195) C (tgt := 220) dX9_nextToken_195 rfl (fun _ => ?_) (fun _ => ?_)
                · refine r_aload_n (pc := 220) C dX9_nextToken_220 rfl rfl ?_
                  refine r_getI (pc := 221) C dX9_nextToken_221 fl_X9_107 rfl (fun v26 => ?_)
                  refine r_sub [(0, .ref (x_b X + a))] rfl ?_
                  exact r_br (τ := Int32) v26
                · refine r_bipush (pc := 198) C dX9_nextToken_198 kb_10 ?_
                  refine r_aload_n (pc := 200) C dX9_nextToken_200 rfl rfl ?_
                  refine r_getI (pc := 201) C dX9_nextToken_201 fl_X9_107 rfl (fun v27 => ?_)
                  refine r_imul (pc := 204) C dX9_nextToken_204 ?_
                  refine r_aload_n (pc := 205) C dX9_nextToken_205 rfl rfl ?_
                  refine r_aload_n (pc := 206) C dX9_nextToken_206 rfl rfl ?_
                  refine r_getI (pc := 207) C dX9_nextToken_207 fl_X9_90 rfl (fun v28 => ?_)
                  refine r_cVI (pc := 210) C [.int v28] [.int (10 * v27), .ref (x_b X + a)] (z_KX.up (z_KX.up (z_KX.up (z_KX.zero hT)))) (s_X9_byteAt a v28) mt_X9_byteAt zc_9 dX9_nextToken_210 ml_X9_96 im_X9_byteAt se_X9_byteAt rfl rfl rfl (Nat.le_of_ble_eq_true rfl) ⟨Nat.le_of_ble_eq_true rfl, Nat.le_of_ble_eq_true rfl⟩ (fun r29 => ?_)
                  refine r_iadd (pc := 213) C dX9_nextToken_213 ?_
                  refine r_bipush (pc := 214) C dX9_nextToken_214 kb_48 ?_
                  refine r_isub (pc := 216) C dX9_nextToken_216 ?_
                  refine r_goto (pc := 217) C (tgt := 224) dX9_nextToken_217 rfl ?_
                  refine r_sub [(0, .ref (x_b X + a))] rfl ?_
                  exact r_br (τ := Int32) ((((10 * v27) + r29) - 48))
      · refine r_jn 124 (fun (t34 : Unit) => [(0, .ref (x_b X + a))]) (fun (t34 : Unit) => []) (fun t34 => ?_) ?_
        · refine r_aload_n (pc := 124) C dX9_nextToken_124 rfl rfl ?_
          refine r_aload_n (pc := 125) C dX9_nextToken_125 rfl rfl ?_
          refine r_getI (pc := 126) C dX9_nextToken_126 fl_X9_90 rfl (fun v40 => ?_)
          refine r_aload_n (pc := 129) C dX9_nextToken_129 rfl rfl ?_
          refine r_getI (pc := 130) C dX9_nextToken_130 fl_X9_93 rfl (fun v41 => ?_)
          refine r_isub (pc := 133) C dX9_nextToken_133 ?_
          refine r_bipush (pc := 134) C dX9_nextToken_134 kb_8 ?_
          refine r_jn 144 (fun (t42 : Int32) => []) (fun (t42 : Int32) => [.int t42, .ref (x_b X + a)]) (fun t42 => ?_) ?_
          · refine r_putI (pc := 144) C dX9_nextToken_144 fl_X9_100 rfl rfl ?_
            refine r_goto (pc := 147) C (tgt := 313) dX9_nextToken_147 rfl ?_
            exact r_vret (pc := 313) C dX9_nextToken_313
          · refine r_icmp_le (pc := 136) C (tgt := 143) dX9_nextToken_136 rfl (fun _ => ?_) (fun _ => ?_)
            · refine r_iconst (pc := 143) C dX9_nextToken_143 ki_1 ?_
              refine r_sub [] rfl ?_
              exact r_br (τ := Int32) 1
            · refine r_iconst (pc := 139) C dX9_nextToken_139 ki_3 ?_
              refine r_goto (pc := 140) C (tgt := 144) dX9_nextToken_140 rfl ?_
              refine r_sub [] rfl ?_
              exact r_br (τ := Int32) 3
        · refine r_sub [(0, .ref (x_b X + a))] rfl ?_
          refine r_lp (pc := 93) (fun (t35 : Unit) => [(0, .ref (x_b X + a))]) (fun t35 => ?_) ()
          refine r_aload_n (pc := 93) C dX9_nextToken_93 rfl rfl ?_
          refine r_aload_n (pc := 94) C dX9_nextToken_94 rfl rfl ?_
          refine r_getI (pc := 95) C dX9_nextToken_95 fl_X9_90 rfl (fun v36 => ?_)
          refine r_cVI (pc := 98) C [.int v36] [] (z_KX.up (z_KX.up (z_KX.zero hT))) (s_X9_byteAt a v36) mt_X9_byteAt zc_9 dX9_nextToken_98 ml_X9_96 im_X9_byteAt se_X9_byteAt rfl rfl rfl (Nat.le_of_ble_eq_true rfl) ⟨Nat.le_of_ble_eq_true rfl, Nat.le_of_ble_eq_true rfl⟩ (fun r37 => ?_)
          refine r_bipush (pc := 101) C dX9_nextToken_101 kb_97 ?_
          refine r_bipush (pc := 103) C dX9_nextToken_103 kb_122 ?_
          refine r_cSI (pc := 105) C [.int r37, .int 97, .int 122] [] (z_KX.up (z_KX.up (z_KX.zero hT))) (s_X9_within r37 97 122) mt_X9_within dX9_nextToken_105 ml_X9_103 sm_X9_within rfl rfl rfl (Nat.le_of_ble_eq_true rfl) ⟨Nat.le_of_ble_eq_true rfl, Nat.le_of_ble_eq_true rfl⟩ (fun r38 => ?_)
          refine r_if_eq (pc := 108) C (tgt := 124) dX9_nextToken_108 rfl (fun _ => ?_) (fun _ => ?_)
          · refine r_sub [(0, .ref (x_b X + a))] rfl ?_
            exact r_up (r_br (τ := Unit) ())
          · refine r_aload_n (pc := 111) C dX9_nextToken_111 rfl rfl ?_
            refine r_dup (pc := 112) C dX9_nextToken_112 rfl ?_
            refine r_getI (pc := 113) C dX9_nextToken_113 fl_X9_90 rfl (fun v39 => ?_)
            refine r_iconst (pc := 116) C dX9_nextToken_116 ki_1 ?_
            refine r_iadd (pc := 117) C dX9_nextToken_117 ?_
            refine r_putI (pc := 118) C dX9_nextToken_118 fl_X9_90 rfl rfl ?_
            refine r_goto (pc := 121) C (tgt := 93) dX9_nextToken_121 rfl ?_
            refine r_sub [(0, .ref (x_b X + a))] rfl ?_
            exact r_br (τ := Unit) ()
  · refine r_sub [(0, .ref (x_b X + a))] rfl ?_
    refine r_lp (pc := 8) (fun (t3 : Unit) => [(0, .ref (x_b X + a))]) (fun t3 => ?_) ()
    refine r_aload_n (pc := 8) C dX9_nextToken_8 rfl rfl ?_
    refine r_aload_n (pc := 9) C dX9_nextToken_9 rfl rfl ?_
    refine r_getI (pc := 10) C dX9_nextToken_10 fl_X9_93 rfl (fun v4 => ?_)
    refine r_cVI (pc := 13) C [.int v4] [] (z_KX.up (z_KX.up (z_KX.zero hT))) (s_X9_byteAt a v4) mt_X9_byteAt zc_9 dX9_nextToken_13 ml_X9_96 im_X9_byteAt se_X9_byteAt rfl rfl rfl (Nat.le_of_ble_eq_true rfl) ⟨Nat.le_of_ble_eq_true rfl, Nat.le_of_ble_eq_true rfl⟩ (fun r5 => ?_)
    refine r_bipush (pc := 16) C dX9_nextToken_16 kb_32 ?_
    refine r_jn 34 (fun (t6 : Unit) => [(0, .ref (x_b X + a))]) (fun (t6 : Unit) => []) (fun t6 => ?_) ?_
    · refine r_aload_n (pc := 34) C dX9_nextToken_34 rfl rfl ?_
      refine r_dup (pc := 35) C dX9_nextToken_35 rfl ?_
      refine r_getI (pc := 36) C dX9_nextToken_36 fl_X9_93 rfl (fun v9 => ?_)
      refine r_iconst (pc := 39) C dX9_nextToken_39 ki_1 ?_
      refine r_iadd (pc := 40) C dX9_nextToken_40 ?_
      refine r_putI (pc := 41) C dX9_nextToken_41 fl_X9_93 rfl rfl ?_
      refine r_goto (pc := 44) C (tgt := 8) dX9_nextToken_44 rfl ?_
      refine r_sub [(0, .ref (x_b X + a))] rfl ?_
      exact r_br (τ := Unit) ()
    · refine r_icmp_eq (pc := 18) C (tgt := 34) dX9_nextToken_18 rfl (fun _ => ?_) (fun _ => ?_)
      · refine r_sub [(0, .ref (x_b X + a))] rfl ?_
        exact r_br (τ := Unit) ()
      · refine r_aload_n (pc := 21) C dX9_nextToken_21 rfl rfl ?_
        refine r_aload_n (pc := 22) C dX9_nextToken_22 rfl rfl ?_
        refine r_getI (pc := 23) C dX9_nextToken_23 fl_X9_93 rfl (fun v7 => ?_)
        refine r_cVI (pc := 26) C [.int v7] [] (z_KX.up (z_KX.up (z_KX.up (z_KX.zero hT)))) (s_X9_byteAt a v7) mt_X9_byteAt zc_9 dX9_nextToken_26 ml_X9_96 im_X9_byteAt se_X9_byteAt rfl rfl rfl (Nat.le_of_ble_eq_true rfl) ⟨Nat.le_of_ble_eq_true rfl, Nat.le_of_ble_eq_true rfl⟩ (fun r8 => ?_)
        refine r_bipush (pc := 29) C dX9_nextToken_29 kb_10 ?_
        refine r_icmp_ne (pc := 31) C (tgt := 47) dX9_nextToken_31 rfl (fun _ => ?_) (fun _ => ?_)
        · refine r_sub [(0, .ref (x_b X + a))] rfl ?_
          exact r_br (τ := Unit) ()
        · refine r_sub [(0, .ref (x_b X + a))] rfl ?_
          exact r_up (r_up (r_br (τ := Unit) ()))
noncomputable def p_X9_must (a : Nat) (p1 : Int32) (p2 : Int32) : zP Int32 := (z_bd (z_gI 9 a 8) (fun v1 => (z_jn (τ := Unit) (if v1 = 0 then (if p1 = 0 then (z_bd (z_pI 9 a 8 p2) (fun _ => (z_bd (z_gI 9 a 4) (fun v3 => (z_bd (z_pI 9 a 9 v3) (fun _ => (z_pu (.inl ())))))))) else (z_pu (.inl ()))) else (z_pu (.inl ()))) (fun t2 => (z_bd (z_gI 9 a 8) (fun v4 => (if v4 = 0 then (z_pu 1) else (z_pu 0))))))))
set_option maxHeartbeats 4000000 in
set_option maxRecDepth 100000 in
theorem s_X9_must (a : Nat) (p1 : Int32) (p2 : Int32) : z_Sound yX9_must cX9_must 3 (some .boolean) 1 20 (fun D b => [.ref (b + a), .int p1, .int p2]) z_ivI (p_X9_must a p1 p2) := by
  refine z_ofSim rfl (by intro D b; exact Nat.le_of_ble_eq_true rfl) (fun X C hT => ?_)
  unfold p_X9_must
  refine r_sub [(0, .ref (x_b X + a)), (1, .int p1), (2, .int p2)] rfl ?_
  refine r_aload_n (pc := 0) C dX9_must_0 rfl rfl ?_
  refine r_getI (pc := 1) C dX9_must_1 fl_X9_110 rfl (fun v1 => ?_)
  refine r_jn 24 (fun (t2 : Unit) => [(0, .ref (x_b X + a))]) (fun (t2 : Unit) => []) (fun t2 => ?_) ?_
  · refine r_aload_n (pc := 24) C dX9_must_24 rfl rfl ?_
    refine r_getI (pc := 25) C dX9_must_25 fl_X9_110 rfl (fun v4 => ?_)
    refine r_if_ne (pc := 28) C (tgt := 35) dX9_must_28 rfl (fun _ => ?_) (fun _ => ?_)
    · refine r_iconst (pc := 31) C dX9_must_31 ki_1 ?_
      refine r_goto (pc := 32) C (tgt := 36) dX9_must_32 rfl ?_
      exact r_zret1 (pc := 36) C dX9_must_36 (by decide)
    · refine r_iconst (pc := 35) C dX9_must_35 ki_0 ?_
      exact r_zret1 (pc := 36) C dX9_must_36 (by decide)
  · refine r_if_ne (pc := 4) C (tgt := 24) dX9_must_4 rfl (fun _ => ?_) (fun _ => ?_)
    · refine r_iload_n (pc := 7) C dX9_must_7 rfl rfl ?_
      refine r_if_ne (pc := 8) C (tgt := 24) dX9_must_8 rfl (fun _ => ?_) (fun _ => ?_)
      · refine r_aload_n (pc := 11) C dX9_must_11 rfl rfl ?_
        refine r_iload_n (pc := 12) C dX9_must_12 rfl rfl ?_
        refine r_putI (pc := 13) C dX9_must_13 fl_X9_110 rfl rfl ?_
        refine r_aload_n (pc := 16) C dX9_must_16 rfl rfl ?_
        refine r_aload_n (pc := 17) C dX9_must_17 rfl rfl ?_
        refine r_getI (pc := 18) C dX9_must_18 fl_X9_93 rfl (fun v3 => ?_)
        refine r_putI (pc := 21) C dX9_must_21 fl_X9_113 rfl rfl ?_
        refine r_sub [(0, .ref (x_b X + a))] rfl ?_
        exact r_br (τ := Unit) ()
      · refine r_sub [(0, .ref (x_b X + a))] rfl ?_
        exact r_br (τ := Unit) ()
    · refine r_sub [(0, .ref (x_b X + a))] rfl ?_
      exact r_br (τ := Unit) ()
noncomputable def p_X9_wordHere (a : Nat) : zP Int64 := (z_bd (z_gI 9 a 4) (fun v1 => (z_jn (τ := Int64) (z_lp (fun (t3 : Int64 × Int32) => (z_bd (z_gI 9 a 6) (fun v4 => (if v4 = 1 then (z_bd (z_gI 9 a 5) (fun v5 => (if v5 ≤ t3.2 then (z_pu (.inr (.inl t3.1))) else (z_bd (z_gA 9 a 1) (fun v6 => (z_bd (z_aI 10 v6 t3.2) (fun v7 => (z_bd (z_pu ((((t3.1 * 32) + ((v7 : Int32).toInt64)) - 96))) (fun x8 => (z_pu (.inl (x8, (t3.2 + 1))))))))))))) else (z_pu (.inr (.inl t3.1))))))) (0, v1)) (fun t2 => (z_bd (z_gI 9 a 6) (fun v9 => (if v9 = 1 then (z_pu t2) else (z_pu (-1)))))))))
set_option maxHeartbeats 4000000 in
set_option maxRecDepth 100000 in
theorem s_X9_wordHere (a : Nat) : z_Sound yX9_wordHere cX9_wordHere 4 (some .long) 1 20 (fun D b => [.ref (b + a)]) z_ivJ (p_X9_wordHere a) := by
  refine z_ofSim rfl (by intro D b; exact Nat.le_of_ble_eq_true rfl) (fun X C hT => ?_)
  unfold p_X9_wordHere
  refine r_sub [(0, .ref (x_b X + a))] rfl ?_
  refine r_lconst (pc := 0) C dX9_wordHere_0 (v := 0) (by decide) ?_
  refine r_stl_n (pc := 1) C 1 [(0, .ref (x_b X + a)), (1, .long 0)] dX9_wordHere_1 rfl (by decide) rfl ?_
  refine r_aload_n (pc := 2) C dX9_wordHere_2 rfl rfl ?_
  refine r_getI (pc := 3) C dX9_wordHere_3 fl_X9_93 rfl (fun v1 => ?_)
  refine r_sti_n (pc := 6) C 3 [(0, .ref (x_b X + a)), (1, .long 0), (3, .int v1)] dX9_wordHere_6 rfl (by decide) rfl ?_
  refine r_jn 47 (fun (t2 : Int64) => [(0, .ref (x_b X + a)), (1, .long t2)]) (fun (t2 : Int64) => []) (fun t2 => ?_) ?_
  · refine r_aload_n (pc := 47) C dX9_wordHere_47 rfl rfl ?_
    refine r_getI (pc := 48) C dX9_wordHere_48 fl_X9_100 rfl (fun v9 => ?_)
    refine r_iconst (pc := 51) C dX9_wordHere_51 ki_1 ?_
    refine r_icmp_ne (pc := 52) C (tgt := 59) dX9_wordHere_52 rfl (fun _ => ?_) (fun _ => ?_)
    · refine r_lload_n (pc := 55) C dX9_wordHere_55 rfl rfl ?_
      refine r_goto (pc := 56) C (tgt := 62) dX9_wordHere_56 rfl ?_
      exact r_lret (pc := 62) C dX9_wordHere_62
    · refine r_ldc2 (pc := 59) C dX9_wordHere_59 kc_X9_120 ?_
      exact r_lret (pc := 62) C dX9_wordHere_62
  · refine r_sub [(0, .ref (x_b X + a)), (1, .long 0), (3, .int v1)] rfl ?_
    refine r_lp (pc := 7) (fun (t3 : Int64 × Int32) => [(0, .ref (x_b X + a)), (1, .long t3.1), (3, .int t3.2)]) (fun t3 => ?_) (0, v1)
    refine r_aload_n (pc := 7) C dX9_wordHere_7 rfl rfl ?_
    refine r_getI (pc := 8) C dX9_wordHere_8 fl_X9_100 rfl (fun v4 => ?_)
    refine r_iconst (pc := 11) C dX9_wordHere_11 ki_1 ?_
    refine r_icmp_ne (pc := 12) C (tgt := 47) dX9_wordHere_12 rfl (fun _ => ?_) (fun _ => ?_)
    · refine r_iload_n (pc := 15) C dX9_wordHere_15 rfl rfl ?_
      refine r_aload_n (pc := 16) C dX9_wordHere_16 rfl rfl ?_
      refine r_getI (pc := 17) C dX9_wordHere_17 fl_X9_90 rfl (fun v5 => ?_)
      refine r_icmp_ge (pc := 20) C (tgt := 47) dX9_wordHere_20 rfl (fun _ => ?_) (fun _ => ?_)
      · refine r_sub [(0, .ref (x_b X + a)), (1, .long t3.1)] rfl ?_
        exact r_up (r_br (τ := Int64) t3.1)
      · refine r_lload_n (pc := 23) C dX9_wordHere_23 rfl rfl ?_
        refine r_ldc2 (pc := 24) C dX9_wordHere_24 kc_X9_116 ?_
        refine r_lmul (pc := 27) C dX9_wordHere_27 ?_
        refine r_aload_n (pc := 28) C dX9_wordHere_28 rfl rfl ?_
        refine r_getA (pc := 29) C dX9_wordHere_29 fl_X9_7 rfl (fun v6 => ?_)
        refine r_iload_n (pc := 32) C dX9_wordHere_32 rfl rfl ?_
        refine r_bald (pc := 33) C dX9_wordHere_33 (fun v7 => ?_)
        refine r_i2l (pc := 34) C dX9_wordHere_34 ?_
        refine r_ladd (pc := 35) C dX9_wordHere_35 ?_
        refine r_ldc2 (pc := 36) C dX9_wordHere_36 kc_X9_118 ?_
        refine r_lsub (pc := 39) C dX9_wordHere_39 ?_
        refine r_stl_n (pc := 40) C 1 [(0, .ref (x_b X + a)), (1, .long (((t3.1 * 32) + ((v7 : Int32).toInt64)) - 96)), (3, .int t3.2)] dX9_wordHere_40 rfl (by decide) rfl ?_
        refine r_let ((((t3.1 * 32) + ((v7 : Int32).toInt64)) - 96)) (fun x8 => [(0, .ref (x_b X + a)), (1, .long x8), (3, .int t3.2)]) (fun x8 => []) (fun x8 => ?_)
        refine r_inc (pc := 41) C 1 [(0, .ref (x_b X + a)), (1, .long x8), (3, .int (t3.2 + 1))] dX9_wordHere_41 rfl ki_1 (by decide) rfl ?_
        refine r_goto (pc := 44) C (tgt := 7) dX9_wordHere_44 rfl ?_
        refine r_sub [(0, .ref (x_b X + a)), (1, .long x8), (3, .int (t3.2 + 1))] rfl ?_
        exact r_br (τ := Int64 × Int32) (x8, (t3.2 + 1))
    · refine r_sub [(0, .ref (x_b X + a)), (1, .long t3.1)] rfl ?_
      exact r_up (r_br (τ := Int64) t3.1)
noncomputable def p_X9_read (a : Nat) (p1 : Int32) (p2 : Int32) : zP Int32 := (z_bd (z_gI 9 a 6) (fun v1 => (z_jn (τ := Int32) (if v1 = 2 then (z_pu (.inl 1)) else (z_pu (.inl 0))) (fun t2 => (z_bd (z_cv 9 a (p_X9_must a t2 1)) (fun r3 => (if r3 = 0 then (z_pu p1) else (z_bd (z_gI 9 a 7) (fun v4 => (z_bd (p_X9_within v4 p1 p2) (fun r5 => (z_bd (z_cv 9 a (p_X9_must a r5 3)) (fun r6 => (if r6 = 0 then (z_pu p1) else (z_bd (z_gI 9 a 7) (fun v7 => (z_bd (z_cv 9 a (p_X9_nextToken a)) (fun _ => (z_pu v7)))))))))))))))))))
set_option maxHeartbeats 4000000 in
set_option maxRecDepth 100000 in
theorem s_X9_read (a : Nat) (p1 : Int32) (p2 : Int32) : z_Sound yX9_read cX9_read 4 (some .int) 3 63 (fun D b => [.ref (b + a), .int p1, .int p2]) z_ivI (p_X9_read a p1 p2) := by
  refine z_ofSim rfl (by intro D b; exact Nat.le_of_ble_eq_true rfl) (fun X C hT => ?_)
  unfold p_X9_read
  refine r_sub [(0, .ref (x_b X + a)), (1, .int p1), (2, .int p2)] rfl ?_
  refine r_aload_n (pc := 0) C dX9_read_0 rfl rfl ?_
  refine r_aload_n (pc := 1) C dX9_read_1 rfl rfl ?_
  refine r_getI (pc := 2) C dX9_read_2 fl_X9_100 rfl (fun v1 => ?_)
  refine r_iconst (pc := 5) C dX9_read_5 ki_2 ?_
  refine r_jn 14 (fun (t2 : Int32) => [(0, .ref (x_b X + a)), (1, .int p1), (2, .int p2)]) (fun (t2 : Int32) => [.int t2, .ref (x_b X + a)]) (fun t2 => ?_) ?_
  · refine r_iconst (pc := 14) C dX9_read_14 ki_1 ?_
    refine r_cVI (pc := 15) C [.int t2, .int 1] [] (z_KX.zero hT) (s_X9_must a t2 1) mt_X9_must zc_9 dX9_read_15 ml_X9_122 im_X9_must se_X9_must rfl rfl rfl (Nat.le_of_ble_eq_true rfl) ⟨Nat.le_of_ble_eq_true rfl, Nat.le_of_ble_eq_true rfl⟩ (fun r3 => ?_)
    refine r_if_eq (pc := 18) C (tgt := 38) dX9_read_18 rfl (fun _ => ?_) (fun _ => ?_)
    · refine r_iload_n (pc := 38) C dX9_read_38 rfl rfl ?_
      exact r_iret (pc := 39) C dX9_read_39
    · refine r_aload_n (pc := 21) C dX9_read_21 rfl rfl ?_
      refine r_aload_n (pc := 22) C dX9_read_22 rfl rfl ?_
      refine r_getI (pc := 23) C dX9_read_23 fl_X9_107 rfl (fun v4 => ?_)
      refine r_iload_n (pc := 26) C dX9_read_26 rfl rfl ?_
      refine r_iload_n (pc := 27) C dX9_read_27 rfl rfl ?_
      refine r_cSI (pc := 28) C [.int v4, .int p1, .int p2] [.ref (x_b X + a)] (z_KX.zero hT) (s_X9_within v4 p1 p2) mt_X9_within dX9_read_28 ml_X9_103 sm_X9_within rfl rfl rfl (Nat.le_of_ble_eq_true rfl) ⟨Nat.le_of_ble_eq_true rfl, Nat.le_of_ble_eq_true rfl⟩ (fun r5 => ?_)
      refine r_iconst (pc := 31) C dX9_read_31 ki_3 ?_
      refine r_cVI (pc := 32) C [.int r5, .int 3] [] (z_KX.zero hT) (s_X9_must a r5 3) mt_X9_must zc_9 dX9_read_32 ml_X9_122 im_X9_must se_X9_must rfl rfl rfl (Nat.le_of_ble_eq_true rfl) ⟨Nat.le_of_ble_eq_true rfl, Nat.le_of_ble_eq_true rfl⟩ (fun r6 => ?_)
      refine r_if_ne (pc := 35) C (tgt := 40) dX9_read_35 rfl (fun _ => ?_) (fun _ => ?_)
      · refine r_iload_n (pc := 38) C dX9_read_38 rfl rfl ?_
        exact r_iret (pc := 39) C dX9_read_39
      · refine r_aload_n (pc := 40) C dX9_read_40 rfl rfl ?_
        refine r_getI (pc := 41) C dX9_read_41 fl_X9_107 rfl (fun v7 => ?_)
        refine r_sti_n (pc := 44) C 3 [(0, .ref (x_b X + a)), (3, .int v7)] dX9_read_44 rfl (by decide) rfl ?_
        refine r_aload_n (pc := 45) C dX9_read_45 rfl rfl ?_
        refine r_cVV (pc := 46) C [] [] (z_KX.zero hT) (s_X9_nextToken a) mt_X9_nextToken zc_9 dX9_read_46 ml_X9_126 im_X9_nextToken se_X9_nextToken rfl rfl rfl (Nat.le_of_ble_eq_true rfl) ⟨Nat.le_of_ble_eq_true rfl, Nat.le_of_ble_eq_true rfl⟩ ?_
        refine r_iload_n (pc := 49) C dX9_read_49 rfl rfl ?_
        exact r_iret (pc := 50) C dX9_read_50
  · refine r_icmp_ne (pc := 6) C (tgt := 13) dX9_read_6 rfl (fun _ => ?_) (fun _ => ?_)
    · refine r_iconst (pc := 9) C dX9_read_9 ki_1 ?_
      refine r_goto (pc := 10) C (tgt := 14) dX9_read_10 rfl ?_
      refine r_sub [(0, .ref (x_b X + a)), (1, .int p1), (2, .int p2)] rfl ?_
      exact r_br (τ := Int32) 1
    · refine r_iconst (pc := 13) C dX9_read_13 ki_0 ?_
      refine r_sub [(0, .ref (x_b X + a)), (1, .int p1), (2, .int p2)] rfl ?_
      exact r_br (τ := Int32) 0
noncomputable def p_X9_begins (a : Nat) (p1 : Int32) (p2 : Int32) : zP Int32 := (z_bd (z_gA 9 a 10) (fun v1 => (z_bd (z_aI 11 v1 p1) (fun v2 => (z_jn (τ := Int32) (if p2 ≤ v2 then (z_pu (.inl 0)) else (z_pu (.inl 1))) (fun t3 => (z_bd (z_cv 9 a (p_X9_must a t3 4)) (fun r4 => (if r4 = 0 then (z_pu 0) else (z_bd (z_cv 9 a (p_X9_nextToken a)) (fun _ => (z_pu 1))))))))))))
set_option maxHeartbeats 4000000 in
set_option maxRecDepth 100000 in
theorem s_X9_begins (a : Nat) (p1 : Int32) (p2 : Int32) : z_Sound yX9_begins cX9_begins 3 (some .boolean) 3 63 (fun D b => [.ref (b + a), .int p1, .int p2]) z_ivI (p_X9_begins a p1 p2) := by
  refine z_ofSim rfl (by intro D b; exact Nat.le_of_ble_eq_true rfl) (fun X C hT => ?_)
  unfold p_X9_begins
  refine r_sub [(0, .ref (x_b X + a)), (1, .int p1), (2, .int p2)] rfl ?_
  refine r_aload_n (pc := 0) C dX9_begins_0 rfl rfl ?_
  refine r_aload_n (pc := 1) C dX9_begins_1 rfl rfl ?_
  refine r_getA (pc := 2) C dX9_begins_2 fl_X9_13 rfl (fun v1 => ?_)
  refine r_iload_n (pc := 5) C dX9_begins_5 rfl rfl ?_
  refine r_iald (pc := 6) C dX9_begins_6 (fun v2 => ?_)
  refine r_iload_n (pc := 7) C dX9_begins_7 rfl rfl ?_
  refine r_jn 16 (fun (t3 : Int32) => [(0, .ref (x_b X + a))]) (fun (t3 : Int32) => [.int t3, .ref (x_b X + a)]) (fun t3 => ?_) ?_
  · refine r_iconst (pc := 16) C dX9_begins_16 ki_4 ?_
    refine r_cVI (pc := 17) C [.int t3, .int 4] [] (z_KX.zero hT) (s_X9_must a t3 4) mt_X9_must zc_9 dX9_begins_17 ml_X9_122 im_X9_must se_X9_must rfl rfl rfl (Nat.le_of_ble_eq_true rfl) ⟨Nat.le_of_ble_eq_true rfl, Nat.le_of_ble_eq_true rfl⟩ (fun r4 => ?_)
    refine r_if_ne (pc := 20) C (tgt := 25) dX9_begins_20 rfl (fun _ => ?_) (fun _ => ?_)
    · refine r_iconst (pc := 23) C dX9_begins_23 ki_0 ?_
      exact r_zret1 (pc := 24) C dX9_begins_24 (by decide)
    · refine r_aload_n (pc := 25) C dX9_begins_25 rfl rfl ?_
      refine r_cVV (pc := 26) C [] [] (z_KX.zero hT) (s_X9_nextToken a) mt_X9_nextToken zc_9 dX9_begins_26 ml_X9_126 im_X9_nextToken se_X9_nextToken rfl rfl rfl (Nat.le_of_ble_eq_true rfl) ⟨Nat.le_of_ble_eq_true rfl, Nat.le_of_ble_eq_true rfl⟩ ?_
      refine r_iconst (pc := 29) C dX9_begins_29 ki_1 ?_
      exact r_zret1 (pc := 30) C dX9_begins_30 (by decide)
  · refine r_icmp_ge (pc := 8) C (tgt := 15) dX9_begins_8 rfl (fun _ => ?_) (fun _ => ?_)
    · refine r_iconst (pc := 15) C dX9_begins_15 ki_0 ?_
      refine r_sub [(0, .ref (x_b X + a))] rfl ?_
      exact r_br (τ := Int32) 0
    · refine r_iconst (pc := 11) C dX9_begins_11 ki_1 ?_
      refine r_goto (pc := 12) C (tgt := 16) dX9_begins_12 rfl ?_
      refine r_sub [(0, .ref (x_b X + a))] rfl ?_
      exact r_br (τ := Int32) 1
noncomputable def p_X9_once (a : Nat) (p1 : Int32) : zP Int32 := (z_bd (z_gI 9 a 14) (fun v1 => (z_jn (τ := Int32) (if ((v1 >>> (p1 &&& 31)) &&& 1) = 0 then (z_pu (.inl 1)) else (z_pu (.inl 0))) (fun t2 => (z_bd (z_cv 9 a (p_X9_must a t2 2)) (fun r3 => (if r3 = 0 then (z_pu 0) else (z_bd (z_gI 9 a 14) (fun v4 => (z_bd (z_pI 9 a 14 (v4 ||| (1 <<< (p1 &&& 31)))) (fun _ => (z_bd (z_cv 9 a (p_X9_nextToken a)) (fun _ => (z_pu 1))))))))))))))
set_option maxHeartbeats 4000000 in
set_option maxRecDepth 100000 in
theorem s_X9_once (a : Nat) (p1 : Int32) : z_Sound yX9_once cX9_once 2 (some .boolean) 3 63 (fun D b => [.ref (b + a), .int p1]) z_ivI (p_X9_once a p1) := by
  refine z_ofSim rfl (by intro D b; exact Nat.le_of_ble_eq_true rfl) (fun X C hT => ?_)
  unfold p_X9_once
  refine r_sub [(0, .ref (x_b X + a)), (1, .int p1)] rfl ?_
  refine r_aload_n (pc := 0) C dX9_once_0 rfl rfl ?_
  refine r_aload_n (pc := 1) C dX9_once_1 rfl rfl ?_
  refine r_getI (pc := 2) C dX9_once_2 fl_X9_129 rfl (fun v1 => ?_)
  refine r_iload_n (pc := 5) C dX9_once_5 rfl rfl ?_
  refine r_ishr (pc := 6) C dX9_once_6 ?_
  refine r_iconst (pc := 7) C dX9_once_7 ki_1 ?_
  refine r_iand (pc := 8) C dX9_once_8 ?_
  refine r_jn 17 (fun (t2 : Int32) => [(0, .ref (x_b X + a)), (1, .int p1)]) (fun (t2 : Int32) => [.int t2, .ref (x_b X + a)]) (fun t2 => ?_) ?_
  · refine r_iconst (pc := 17) C dX9_once_17 ki_2 ?_
    refine r_cVI (pc := 18) C [.int t2, .int 2] [] (z_KX.zero hT) (s_X9_must a t2 2) mt_X9_must zc_9 dX9_once_18 ml_X9_122 im_X9_must se_X9_must rfl rfl rfl (Nat.le_of_ble_eq_true rfl) ⟨Nat.le_of_ble_eq_true rfl, Nat.le_of_ble_eq_true rfl⟩ (fun r3 => ?_)
    refine r_if_ne (pc := 21) C (tgt := 26) dX9_once_21 rfl (fun _ => ?_) (fun _ => ?_)
    · refine r_iconst (pc := 24) C dX9_once_24 ki_0 ?_
      exact r_zret1 (pc := 25) C dX9_once_25 (by decide)
    · refine r_aload_n (pc := 26) C dX9_once_26 rfl rfl ?_
      refine r_dup (pc := 27) C dX9_once_27 rfl ?_
      refine r_getI (pc := 28) C dX9_once_28 fl_X9_129 rfl (fun v4 => ?_)
      refine r_iconst (pc := 31) C dX9_once_31 ki_1 ?_
      refine r_iload_n (pc := 32) C dX9_once_32 rfl rfl ?_
      refine r_ishl (pc := 33) C dX9_once_33 ?_
      refine r_ior (pc := 34) C dX9_once_34 ?_
      refine r_putI (pc := 35) C dX9_once_35 fl_X9_129 rfl rfl ?_
      refine r_aload_n (pc := 38) C dX9_once_38 rfl rfl ?_
      refine r_cVV (pc := 39) C [] [] (z_KX.zero hT) (s_X9_nextToken a) mt_X9_nextToken zc_9 dX9_once_39 ml_X9_126 im_X9_nextToken se_X9_nextToken rfl rfl rfl (Nat.le_of_ble_eq_true rfl) ⟨Nat.le_of_ble_eq_true rfl, Nat.le_of_ble_eq_true rfl⟩ ?_
      refine r_iconst (pc := 42) C dX9_once_42 ki_1 ?_
      exact r_zret1 (pc := 43) C dX9_once_43 (by decide)
  · refine r_if_ne (pc := 9) C (tgt := 16) dX9_once_9 rfl (fun _ => ?_) (fun _ => ?_)
    · refine r_iconst (pc := 12) C dX9_once_12 ki_1 ?_
      refine r_goto (pc := 13) C (tgt := 17) dX9_once_13 rfl ?_
      refine r_sub [(0, .ref (x_b X + a)), (1, .int p1)] rfl ?_
      exact r_br (τ := Int32) 1
    · refine r_iconst (pc := 16) C dX9_once_16 ki_0 ?_
      refine r_sub [(0, .ref (x_b X + a)), (1, .int p1)] rfl ?_
      exact r_br (τ := Int32) 0
noncomputable def p_X9_station (a : Nat) : zP Unit := (z_bd (z_cv 9 a (p_X9_begins a 0 8)) (fun r1 => (if r1 = 0 then (z_pu ()) else (z_bd (z_gA 9 a 10) (fun v2 => (z_bd (z_aI 11 v2 0) (fun v3 => (z_bd (z_gA 9 a 10) (fun v4 => (z_bd (z_cv 9 a (p_X9_read a 0 99)) (fun r5 => (z_bd (z_sI 11 v4 (10 + v3) r5) (fun _ => (z_bd (z_gA 9 a 10) (fun v6 => (z_bd (z_cv 9 a (p_X9_read a 0 99)) (fun r7 => (z_bd (z_sI 11 v6 (18 + v3) r7) (fun _ => (z_bd (z_gA 9 a 10) (fun v8 => (z_bd (z_cv 9 a (p_X9_read a 1 20)) (fun r9 => (z_bd (z_sI 11 v8 (26 + v3) r9) (fun _ => (z_bd (z_gA 9 a 10) (fun v10 => (z_bd (z_gA 9 a 10) (fun v11 => (z_bd (z_aI 11 v11 (26 + v3)) (fun v12 => (z_bd (z_cv 9 a (p_X9_read a 0 v12)) (fun r13 => (z_bd (z_sI 11 v10 (34 + v3) r13) (fun _ => (z_bd (z_gA 9 a 10) (fun v14 => (z_bd (z_aI 11 v14 0) (fun v15 => (z_bd (z_sI 11 v14 0 (v15 + 1)) (fun _ => (z_pu ()))))))))))))))))))))))))))))))))))))))))))
set_option maxHeartbeats 4000000 in
set_option maxRecDepth 100000 in
theorem s_X9_station (a : Nat) : z_Sound yX9_station cX9_station 2 none 4 86 (fun D b => [.ref (b + a)]) z_ivV (p_X9_station a) := by
  refine z_ofSim rfl (by intro D b; exact Nat.le_of_ble_eq_true rfl) (fun X C hT => ?_)
  unfold p_X9_station
  refine r_sub [(0, .ref (x_b X + a))] rfl ?_
  refine r_aload_n (pc := 0) C dX9_station_0 rfl rfl ?_
  refine r_iconst (pc := 1) C dX9_station_1 ki_0 ?_
  refine r_bipush (pc := 2) C dX9_station_2 kb_8 ?_
  refine r_cVI (pc := 4) C [.int 0, .int 8] [] (z_KX.zero hT) (s_X9_begins a 0 8) mt_X9_begins zc_9 dX9_station_4 ml_X9_139 im_X9_begins se_X9_begins rfl rfl rfl (Nat.le_of_ble_eq_true rfl) ⟨Nat.le_of_ble_eq_true rfl, Nat.le_of_ble_eq_true rfl⟩ (fun r1 => ?_)
  refine r_if_ne (pc := 7) C (tgt := 11) dX9_station_7 rfl (fun _ => ?_) (fun _ => ?_)
  · exact r_vret (pc := 10) C dX9_station_10
  · refine r_aload_n (pc := 11) C dX9_station_11 rfl rfl ?_
    refine r_getA (pc := 12) C dX9_station_12 fl_X9_13 rfl (fun v2 => ?_)
    refine r_iconst (pc := 15) C dX9_station_15 ki_0 ?_
    refine r_iald (pc := 16) C dX9_station_16 (fun v3 => ?_)
    refine r_sti_n (pc := 17) C 1 [(0, .ref (x_b X + a)), (1, .int v3)] dX9_station_17 rfl (by decide) rfl ?_
    refine r_aload_n (pc := 18) C dX9_station_18 rfl rfl ?_
    refine r_getA (pc := 19) C dX9_station_19 fl_X9_13 rfl (fun v4 => ?_)
    refine r_bipush (pc := 22) C dX9_station_22 kb_10 ?_
    refine r_iload_n (pc := 24) C dX9_station_24 rfl rfl ?_
    refine r_iadd (pc := 25) C dX9_station_25 ?_
    refine r_aload_n (pc := 26) C dX9_station_26 rfl rfl ?_
    refine r_iconst (pc := 27) C dX9_station_27 ki_0 ?_
    refine r_bipush (pc := 28) C dX9_station_28 kb_99 ?_
    refine r_cVI (pc := 30) C [.int 0, .int 99] [.int (10 + v3), .ref (x_b X + v4)] (z_KX.zero hT) (s_X9_read a 0 99) mt_X9_read zc_9 dX9_station_30 ml_X9_143 im_X9_read se_X9_read rfl rfl rfl (Nat.le_of_ble_eq_true rfl) ⟨Nat.le_of_ble_eq_true rfl, Nat.le_of_ble_eq_true rfl⟩ (fun r5 => ?_)
    refine r_iast (pc := 33) C dX9_station_33 ?_
    refine r_aload_n (pc := 34) C dX9_station_34 rfl rfl ?_
    refine r_getA (pc := 35) C dX9_station_35 fl_X9_13 rfl (fun v6 => ?_)
    refine r_bipush (pc := 38) C dX9_station_38 kb_18 ?_
    refine r_iload_n (pc := 40) C dX9_station_40 rfl rfl ?_
    refine r_iadd (pc := 41) C dX9_station_41 ?_
    refine r_aload_n (pc := 42) C dX9_station_42 rfl rfl ?_
    refine r_iconst (pc := 43) C dX9_station_43 ki_0 ?_
    refine r_bipush (pc := 44) C dX9_station_44 kb_99 ?_
    refine r_cVI (pc := 46) C [.int 0, .int 99] [.int (18 + v3), .ref (x_b X + v6)] (z_KX.zero hT) (s_X9_read a 0 99) mt_X9_read zc_9 dX9_station_46 ml_X9_143 im_X9_read se_X9_read rfl rfl rfl (Nat.le_of_ble_eq_true rfl) ⟨Nat.le_of_ble_eq_true rfl, Nat.le_of_ble_eq_true rfl⟩ (fun r7 => ?_)
    refine r_iast (pc := 49) C dX9_station_49 ?_
    refine r_aload_n (pc := 50) C dX9_station_50 rfl rfl ?_
    refine r_getA (pc := 51) C dX9_station_51 fl_X9_13 rfl (fun v8 => ?_)
    refine r_bipush (pc := 54) C dX9_station_54 kb_26 ?_
    refine r_iload_n (pc := 56) C dX9_station_56 rfl rfl ?_
    refine r_iadd (pc := 57) C dX9_station_57 ?_
    refine r_aload_n (pc := 58) C dX9_station_58 rfl rfl ?_
    refine r_iconst (pc := 59) C dX9_station_59 ki_1 ?_
    refine r_bipush (pc := 60) C dX9_station_60 kb_20 ?_
    refine r_cVI (pc := 62) C [.int 1, .int 20] [.int (26 + v3), .ref (x_b X + v8)] (z_KX.zero hT) (s_X9_read a 1 20) mt_X9_read zc_9 dX9_station_62 ml_X9_143 im_X9_read se_X9_read rfl rfl rfl (Nat.le_of_ble_eq_true rfl) ⟨Nat.le_of_ble_eq_true rfl, Nat.le_of_ble_eq_true rfl⟩ (fun r9 => ?_)
    refine r_iast (pc := 65) C dX9_station_65 ?_
    refine r_aload_n (pc := 66) C dX9_station_66 rfl rfl ?_
    refine r_getA (pc := 67) C dX9_station_67 fl_X9_13 rfl (fun v10 => ?_)
    refine r_bipush (pc := 70) C dX9_station_70 kb_34 ?_
    refine r_iload_n (pc := 72) C dX9_station_72 rfl rfl ?_
    refine r_iadd (pc := 73) C dX9_station_73 ?_
    refine r_aload_n (pc := 74) C dX9_station_74 rfl rfl ?_
    refine r_iconst (pc := 75) C dX9_station_75 ki_0 ?_
    refine r_aload_n (pc := 76) C dX9_station_76 rfl rfl ?_
    refine r_getA (pc := 77) C dX9_station_77 fl_X9_13 rfl (fun v11 => ?_)
    refine r_bipush (pc := 80) C dX9_station_80 kb_26 ?_
    refine r_iload_n (pc := 82) C dX9_station_82 rfl rfl ?_
    refine r_iadd (pc := 83) C dX9_station_83 ?_
    refine r_iald (pc := 84) C dX9_station_84 (fun v12 => ?_)
    refine r_cVI (pc := 85) C [.int 0, .int v12] [.int (34 + v3), .ref (x_b X + v10)] (z_KX.zero hT) (s_X9_read a 0 v12) mt_X9_read zc_9 dX9_station_85 ml_X9_143 im_X9_read se_X9_read rfl rfl rfl (Nat.le_of_ble_eq_true rfl) ⟨Nat.le_of_ble_eq_true rfl, Nat.le_of_ble_eq_true rfl⟩ (fun r13 => ?_)
    refine r_iast (pc := 88) C dX9_station_88 ?_
    refine r_aload_n (pc := 89) C dX9_station_89 rfl rfl ?_
    refine r_getA (pc := 90) C dX9_station_90 fl_X9_13 rfl (fun v14 => ?_)
    refine r_iconst (pc := 93) C dX9_station_93 ki_0 ?_
    refine r_dup2 (pc := 94) C dX9_station_94 rfl rfl ?_
    refine r_iald (pc := 95) C dX9_station_95 (fun v15 => ?_)
    refine r_iconst (pc := 96) C dX9_station_96 ki_1 ?_
    refine r_iadd (pc := 97) C dX9_station_97 ?_
    refine r_iast (pc := 98) C dX9_station_98 ?_
    exact r_vret (pc := 99) C dX9_station_99
noncomputable def p_X9_truckLine (a : Nat) : zP Unit := (z_bd (z_cv 9 a (p_X9_begins a 1 3)) (fun r1 => (if r1 = 0 then (z_pu ()) else (z_bd (z_gA 9 a 10) (fun v2 => (z_bd (z_aI 11 v2 1) (fun v3 => (z_bd (z_gA 9 a 10) (fun v4 => (z_bd (z_gA 9 a 10) (fun v5 => (z_bd (z_aI 11 v5 0) (fun v6 => (z_bd (z_cv 9 a (p_X9_read a 0 (v6 - 1))) (fun r7 => (z_bd (z_sI 11 v4 (42 + v3) r7) (fun _ => (z_bd (z_gA 9 a 10) (fun v8 => (z_bd (z_cv 9 a (p_X9_read a 1 20)) (fun r9 => (z_bd (z_sI 11 v8 (45 + v3) r9) (fun _ => (z_bd (z_gA 9 a 10) (fun v10 => (z_bd (z_aI 11 v10 1) (fun v11 => (z_bd (z_sI 11 v10 1 (v11 + 1)) (fun _ => (z_pu ()))))))))))))))))))))))))))))))
set_option maxHeartbeats 4000000 in
set_option maxRecDepth 100000 in
theorem s_X9_truckLine (a : Nat) : z_Sound yX9_truckLine cX9_truckLine 2 none 4 86 (fun D b => [.ref (b + a)]) z_ivV (p_X9_truckLine a) := by
  refine z_ofSim rfl (by intro D b; exact Nat.le_of_ble_eq_true rfl) (fun X C hT => ?_)
  unfold p_X9_truckLine
  refine r_sub [(0, .ref (x_b X + a))] rfl ?_
  refine r_aload_n (pc := 0) C dX9_truckLine_0 rfl rfl ?_
  refine r_iconst (pc := 1) C dX9_truckLine_1 ki_1 ?_
  refine r_iconst (pc := 2) C dX9_truckLine_2 ki_3 ?_
  refine r_cVI (pc := 3) C [.int 1, .int 3] [] (z_KX.zero hT) (s_X9_begins a 1 3) mt_X9_begins zc_9 dX9_truckLine_3 ml_X9_139 im_X9_begins se_X9_begins rfl rfl rfl (Nat.le_of_ble_eq_true rfl) ⟨Nat.le_of_ble_eq_true rfl, Nat.le_of_ble_eq_true rfl⟩ (fun r1 => ?_)
  refine r_if_ne (pc := 6) C (tgt := 10) dX9_truckLine_6 rfl (fun _ => ?_) (fun _ => ?_)
  · exact r_vret (pc := 9) C dX9_truckLine_9
  · refine r_aload_n (pc := 10) C dX9_truckLine_10 rfl rfl ?_
    refine r_getA (pc := 11) C dX9_truckLine_11 fl_X9_13 rfl (fun v2 => ?_)
    refine r_iconst (pc := 14) C dX9_truckLine_14 ki_1 ?_
    refine r_iald (pc := 15) C dX9_truckLine_15 (fun v3 => ?_)
    refine r_sti_n (pc := 16) C 1 [(0, .ref (x_b X + a)), (1, .int v3)] dX9_truckLine_16 rfl (by decide) rfl ?_
    refine r_aload_n (pc := 17) C dX9_truckLine_17 rfl rfl ?_
    refine r_getA (pc := 18) C dX9_truckLine_18 fl_X9_13 rfl (fun v4 => ?_)
    refine r_bipush (pc := 21) C dX9_truckLine_21 kb_42 ?_
    refine r_iload_n (pc := 23) C dX9_truckLine_23 rfl rfl ?_
    refine r_iadd (pc := 24) C dX9_truckLine_24 ?_
    refine r_aload_n (pc := 25) C dX9_truckLine_25 rfl rfl ?_
    refine r_iconst (pc := 26) C dX9_truckLine_26 ki_0 ?_
    refine r_aload_n (pc := 27) C dX9_truckLine_27 rfl rfl ?_
    refine r_getA (pc := 28) C dX9_truckLine_28 fl_X9_13 rfl (fun v5 => ?_)
    refine r_iconst (pc := 31) C dX9_truckLine_31 ki_0 ?_
    refine r_iald (pc := 32) C dX9_truckLine_32 (fun v6 => ?_)
    refine r_iconst (pc := 33) C dX9_truckLine_33 ki_1 ?_
    refine r_isub (pc := 34) C dX9_truckLine_34 ?_
    refine r_cVI (pc := 35) C [.int 0, .int (v6 - 1)] [.int (42 + v3), .ref (x_b X + v4)] (z_KX.zero hT) (s_X9_read a 0 (v6 - 1)) mt_X9_read zc_9 dX9_truckLine_35 ml_X9_143 im_X9_read se_X9_read rfl rfl rfl (Nat.le_of_ble_eq_true rfl) ⟨Nat.le_of_ble_eq_true rfl, Nat.le_of_ble_eq_true rfl⟩ (fun r7 => ?_)
    refine r_iast (pc := 38) C dX9_truckLine_38 ?_
    refine r_aload_n (pc := 39) C dX9_truckLine_39 rfl rfl ?_
    refine r_getA (pc := 40) C dX9_truckLine_40 fl_X9_13 rfl (fun v8 => ?_)
    refine r_bipush (pc := 43) C dX9_truckLine_43 kb_45 ?_
    refine r_iload_n (pc := 45) C dX9_truckLine_45 rfl rfl ?_
    refine r_iadd (pc := 46) C dX9_truckLine_46 ?_
    refine r_aload_n (pc := 47) C dX9_truckLine_47 rfl rfl ?_
    refine r_iconst (pc := 48) C dX9_truckLine_48 ki_1 ?_
    refine r_bipush (pc := 49) C dX9_truckLine_49 kb_20 ?_
    refine r_cVI (pc := 51) C [.int 1, .int 20] [.int (45 + v3), .ref (x_b X + v8)] (z_KX.zero hT) (s_X9_read a 1 20) mt_X9_read zc_9 dX9_truckLine_51 ml_X9_143 im_X9_read se_X9_read rfl rfl rfl (Nat.le_of_ble_eq_true rfl) ⟨Nat.le_of_ble_eq_true rfl, Nat.le_of_ble_eq_true rfl⟩ (fun r9 => ?_)
    refine r_iast (pc := 54) C dX9_truckLine_54 ?_
    refine r_aload_n (pc := 55) C dX9_truckLine_55 rfl rfl ?_
    refine r_getA (pc := 56) C dX9_truckLine_56 fl_X9_13 rfl (fun v10 => ?_)
    refine r_iconst (pc := 59) C dX9_truckLine_59 ki_1 ?_
    refine r_dup2 (pc := 60) C dX9_truckLine_60 rfl rfl ?_
    refine r_iald (pc := 61) C dX9_truckLine_61 (fun v11 => ?_)
    refine r_iconst (pc := 62) C dX9_truckLine_62 ki_1 ?_
    refine r_iadd (pc := 63) C dX9_truckLine_63 ?_
    refine r_iast (pc := 64) C dX9_truckLine_64 ?_
    exact r_vret (pc := 65) C dX9_truckLine_65
