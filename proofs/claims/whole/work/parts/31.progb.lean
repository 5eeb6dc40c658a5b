noncomputable def p_X1_init (a : Nat) : zP Unit := (z_bd (z_na 11 24) (fun q1 => (z_bd (z_pR 1 a 0 (some q1)) (fun _ => (z_pu ())))))
set_option maxHeartbeats 4000000 in
set_option maxRecDepth 100000 in
theorem s_X1_init (a : Nat) : z_Sound yX1_init cX1_init 1 none 1 20 (fun D b => [.ref (b + a)]) z_ivV (p_X1_init a) := by
  refine z_ofSim rfl (by intro D b; exact Nat.le_of_ble_eq_true rfl) (fun X C hT => ?_)
  unfold p_X1_init
  refine r_sub [(0, .ref (x_b X + a))] rfl ?_
  refine r_aload_n (pc := 0) C dX1_init_0 rfl rfl ?_
  refine r_objInit (pc := 1) C dX1_init_1 ml_X1_3 im_obj cd_obj (Nat.le_of_ble_eq_true rfl) (Nat.le_of_ble_eq_true rfl) ?_
  refine r_aload_n (pc := 4) C dX1_init_4 rfl rfl ?_
  refine r_bipush (pc := 5) C dX1_init_5 kb_24 ?_
  refine r_newa (pc := 7) C (c := 11) (by decide) dX1_init_7 ac_int (fun q1 => ?_)
  refine r_putA (pc := 9) C dX1_init_9 fl_X1_9 rfl (Or.inr ⟨rfl, rfl⟩) ?_
  exact r_vret (pc := 12) C dX1_init_12
noncomputable def p_X1_isLetter (p1 : Int32) : zP Int32 := (if p1 < 97 then (z_pu 0) else (if 122 < p1 then (z_pu 0) else (z_pu 1)))
set_option maxHeartbeats 4000000 in
set_option maxRecDepth 100000 in
theorem s_X1_isLetter (p1 : Int32) : z_Sound yX1_isLetter cX1_isLetter 1 (some .boolean) 1 20 (fun D b => [.int p1]) z_ivI (p_X1_isLetter p1) := by
  refine z_ofSim rfl (by intro D b; exact Nat.le_of_ble_eq_true rfl) (fun X C hT => ?_)
  unfold p_X1_isLetter
  refine r_sub [(0, .int p1)] rfl ?_
  refine r_iload_n (pc := 0) C dX1_isLetter_0 rfl rfl ?_
  refine r_bipush (pc := 1) C dX1_isLetter_1 kb_97 ?_
  refine r_icmp_lt (pc := 3) C (tgt := 16) dX1_isLetter_3 rfl (fun _ => ?_) (fun _ => ?_)
  · refine r_iconst (pc := 16) C dX1_isLetter_16 ki_0 ?_
    exact r_zret1 (pc := 17) C dX1_isLetter_17 (by decide)
  · refine r_iload_n (pc := 6) C dX1_isLetter_6 rfl rfl ?_
    refine r_bipush (pc := 7) C dX1_isLetter_7 kb_122 ?_
    refine r_icmp_gt (pc := 9) C (tgt := 16) dX1_isLetter_9 rfl (fun _ => ?_) (fun _ => ?_)
    · refine r_iconst (pc := 16) C dX1_isLetter_16 ki_0 ?_
      exact r_zret1 (pc := 17) C dX1_isLetter_17 (by decide)
    · refine r_iconst (pc := 12) C dX1_isLetter_12 ki_1 ?_
      refine r_goto (pc := 13) C (tgt := 17) dX1_isLetter_13 rfl ?_
      exact r_zret1 (pc := 17) C dX1_isLetter_17 (by decide)
noncomputable def p_X1_isDigit (p1 : Int32) : zP Int32 := (if p1 < 48 then (z_pu 0) else (if 57 < p1 then (z_pu 0) else (z_pu 1)))
set_option maxHeartbeats 4000000 in
set_option maxRecDepth 100000 in
theorem s_X1_isDigit (p1 : Int32) : z_Sound yX1_isDigit cX1_isDigit 1 (some .boolean) 1 20 (fun D b => [.int p1]) z_ivI (p_X1_isDigit p1) := by
  refine z_ofSim rfl (by intro D b; exact Nat.le_of_ble_eq_true rfl) (fun X C hT => ?_)
  unfold p_X1_isDigit
  refine r_sub [(0, .int p1)] rfl ?_
  refine r_iload_n (pc := 0) C dX1_isDigit_0 rfl rfl ?_
  refine r_bipush (pc := 1) C dX1_isDigit_1 kb_48 ?_
  refine r_icmp_lt (pc := 3) C (tgt := 16) dX1_isDigit_3 rfl (fun _ => ?_) (fun _ => ?_)
  · refine r_iconst (pc := 16) C dX1_isDigit_16 ki_0 ?_
    exact r_zret1 (pc := 17) C dX1_isDigit_17 (by decide)
  · refine r_iload_n (pc := 6) C dX1_isDigit_6 rfl rfl ?_
    refine r_bipush (pc := 7) C dX1_isDigit_7 kb_57 ?_
    refine r_icmp_gt (pc := 9) C (tgt := 16) dX1_isDigit_9 rfl (fun _ => ?_) (fun _ => ?_)
    · refine r_iconst (pc := 16) C dX1_isDigit_16 ki_0 ?_
      exact r_zret1 (pc := 17) C dX1_isDigit_17 (by decide)
    · refine r_iconst (pc := 12) C dX1_isDigit_12 ki_1 ?_
      refine r_goto (pc := 13) C (tgt := 17) dX1_isDigit_13 rfl ?_
      exact r_zret1 (pc := 17) C dX1_isDigit_17 (by decide)
noncomputable def p_X1_isSignByte (p1 : Int32) : zP Int32 := (if p1 = 59 then (z_pu 1) else (z_jn (τ := Unit) (if p1 < 40 then (z_pu (.inl ())) else (if p1 ≤ 43 then (z_pu (.inr 1)) else (z_pu (.inl ())))) (fun t1 => (if p1 = 45 then (z_pu 1) else (if p1 = 47 then (z_pu 1) else (z_pu 0))))))
set_option maxHeartbeats 4000000 in
set_option maxRecDepth 100000 in
theorem s_X1_isSignByte (p1 : Int32) : z_Sound yX1_isSignByte cX1_isSignByte 1 (some .boolean) 1 20 (fun D b => [.int p1]) z_ivI (p_X1_isSignByte p1) := by
  refine z_ofSim rfl (by intro D b; exact Nat.le_of_ble_eq_true rfl) (fun X C hT => ?_)
  unfold p_X1_isSignByte
  refine r_sub [(0, .int p1)] rfl ?_
  refine r_iload_n (pc := 0) C dX1_isSignByte_0 rfl rfl ?_
  refine r_bipush (pc := 1) C dX1_isSignByte_1 kb_59 ?_
  refine r_icmp_eq (pc := 3) C (tgt := 30) dX1_isSignByte_3 rfl (fun _ => ?_) (fun _ => ?_)
  · refine r_iconst (pc := 30) C dX1_isSignByte_30 ki_1 ?_
    refine r_goto (pc := 31) C (tgt := 35) dX1_isSignByte_31 rfl ?_
    exact r_zret1 (pc := 35) C dX1_isSignByte_35 (by decide)
  · refine r_iload_n (pc := 6) C dX1_isSignByte_6 rfl rfl ?_
    refine r_bipush (pc := 7) C dX1_isSignByte_7 kb_40 ?_
    refine r_jn 18 (fun (t1 : Unit) => [(0, .int p1)]) (fun (t1 : Unit) => []) (fun t1 => ?_) ?_
    · refine r_iload_n (pc := 18) C dX1_isSignByte_18 rfl rfl ?_
      refine r_bipush (pc := 19) C dX1_isSignByte_19 kb_45 ?_
      refine r_icmp_eq (pc := 21) C (tgt := 30) dX1_isSignByte_21 rfl (fun _ => ?_) (fun _ => ?_)
      · refine r_iconst (pc := 30) C dX1_isSignByte_30 ki_1 ?_
        refine r_goto (pc := 31) C (tgt := 35) dX1_isSignByte_31 rfl ?_
        exact r_zret1 (pc := 35) C dX1_isSignByte_35 (by decide)
      · refine r_iload_n (pc := 24) C dX1_isSignByte_24 rfl rfl ?_
        refine r_bipush (pc := 25) C dX1_isSignByte_25 kb_47 ?_
        refine r_icmp_ne (pc := 27) C (tgt := 34) dX1_isSignByte_27 rfl (fun _ => ?_) (fun _ => ?_)
        · refine r_iconst (pc := 30) C dX1_isSignByte_30 ki_1 ?_
          refine r_goto (pc := 31) C (tgt := 35) dX1_isSignByte_31 rfl ?_
          exact r_zret1 (pc := 35) C dX1_isSignByte_35 (by decide)
        · refine r_iconst (pc := 34) C dX1_isSignByte_34 ki_0 ?_
          exact r_zret1 (pc := 35) C dX1_isSignByte_35 (by decide)
    · refine r_icmp_lt (pc := 9) C (tgt := 18) dX1_isSignByte_9 rfl (fun _ => ?_) (fun _ => ?_)
      · refine r_sub [(0, .int p1)] rfl ?_
        exact r_br (τ := Unit) ()
      · refine r_iload_n (pc := 12) C dX1_isSignByte_12 rfl rfl ?_
        refine r_bipush (pc := 13) C dX1_isSignByte_13 kb_43 ?_
        refine r_icmp_le (pc := 15) C (tgt := 30) dX1_isSignByte_15 rfl (fun _ => ?_) (fun _ => ?_)
        · refine r_iconst (pc := 30) C dX1_isSignByte_30 ki_1 ?_
          refine r_goto (pc := 31) C (tgt := 35) dX1_isSignByte_31 rfl ?_
          exact r_up (r_zret1 (pc := 35) C dX1_isSignByte_35 (by decide))
        · refine r_sub [(0, .int p1)] rfl ?_
          exact r_br (τ := Unit) ()
noncomputable def p_X1_nextToken (a : Nat) : zP Unit := (z_bd (z_gI 1 a 6) (fun v1 => (z_bd (z_pI 1 a 5 v1) (fun _ => (z_jn (τ := Unit) (z_lp (fun (t3 : Unit) => (z_bd (z_gI 1 a 5) (fun v4 => (z_bd (z_gI 1 a 4) (fun v5 => (if v5 ≤ v4 then (z_pu (.inr (.inl ()))) else (z_bd (z_gA 1 a 2) (fun v6 => (z_bd (z_gI 1 a 5) (fun v7 => (z_bd (z_aI 10 v6 v7) (fun v8 => (z_jn (τ := Unit) (if v8 = 32 then (z_pu (.inl ())) else (z_bd (z_gA 1 a 2) (fun v10 => (z_bd (z_gI 1 a 5) (fun v11 => (z_bd (z_aI 10 v10 v11) (fun v12 => (if v12 = 10 then (z_pu (.inl ())) else (z_pu (.inr (.inr (.inl ())))))))))))) (fun t9 => (z_bd (z_gI 1 a 5) (fun v13 => (z_bd (z_pI 1 a 5 (v13 + 1)) (fun _ => (z_pu (.inl ())))))))))))))))))))) ()) (fun t2 => (z_bd (z_gI 1 a 5) (fun v14 => (z_bd (z_pI 1 a 6 v14) (fun _ => (z_bd (z_gI 1 a 5) (fun v15 => (z_bd (z_gI 1 a 4) (fun v16 => (if v15 < v16 then (z_bd (z_gA 1 a 2) (fun v17 => (z_bd (z_gI 1 a 5) (fun v18 => (z_bd (z_aI 10 v17 v18) (fun v19 => (z_bd (p_X1_isLetter v19) (fun r20 => (if r20 = 0 then (z_bd (z_gA 1 a 2) (fun v21 => (z_bd (z_gI 1 a 5) (fun v22 => (z_bd (z_aI 10 v21 v22) (fun v23 => (z_bd (p_X1_isDigit v23) (fun r24 => (if r24 = 0 then (z_bd (z_gA 1 a 2) (fun v25 => (z_bd (z_gI 1 a 5) (fun v26 => (z_bd (z_aI 10 v25 v26) (fun v27 => (z_bd (z_pI 1 a 8 v27) (fun _ => (z_bd (z_gA 1 a 2) (fun v28 => (z_bd (z_gI 1 a 5) (fun v29 => (z_bd (z_aI 10 v28 v29) (fun v30 => (z_bd (p_X1_isSignByte v30) (fun r31 => (z_jn (τ := Int32) (if r31 = 0 then (z_pu (.inl 4)) else (z_pu (.inl 3))) (fun t32 => (z_bd (z_pI 1 a 7 t32) (fun _ => (z_bd (z_gI 1 a 6) (fun v33 => (z_bd (z_pI 1 a 6 (v33 + 1)) (fun _ => (z_pu ()))))))))))))))))))))))))) else (z_bd (z_pI 1 a 8 0) (fun _ => (z_jn (τ := Unit) (z_lp (fun (t35 : Unit) => (z_bd (z_gI 1 a 6) (fun v36 => (z_bd (z_gI 1 a 4) (fun v37 => (if v37 ≤ v36 then (z_pu (.inr (.inl ()))) else (z_bd (z_gA 1 a 2) (fun v38 => (z_bd (z_gI 1 a 6) (fun v39 => (z_bd (z_aI 10 v38 v39) (fun v40 => (z_bd (p_X1_isDigit v40) (fun r41 => (if r41 = 0 then (z_pu (.inr (.inl ()))) else (z_bd (z_gI 1 a 8) (fun v42 => (z_bd (z_gA 1 a 2) (fun v43 => (z_bd (z_gI 1 a 6) (fun v44 => (z_bd (z_aI 10 v43 v44) (fun v45 => (z_bd (z_pI 1 a 8 (((10 * v42) + v45) - 48)) (fun _ => (z_bd (z_gI 1 a 6) (fun v46 => (z_bd (z_pI 1 a 6 (v46 + 1)) (fun _ => (z_pu (.inl ()))))))))))))))))))))))))))))))) ()) (fun t34 => (z_bd (z_gI 1 a 6) (fun v47 => (z_bd (z_gI 1 a 5) (fun v48 => (z_jn (τ := Int32) (if 4 < (v47 - v48) then (z_pu (.inl 4)) else (z_pu (.inl 2))) (fun t49 => (z_bd (z_pI 1 a 7 t49) (fun _ => (z_pu ())))))))))))))))))))))) else (z_jn (τ := Unit) (z_lp (fun (t51 : Unit) => (z_bd (z_gI 1 a 6) (fun v52 => (z_bd (z_gI 1 a 4) (fun v53 => (if v53 ≤ v52 then (z_pu (.inr (.inl ()))) else (z_bd (z_gA 1 a 2) (fun v54 => (z_bd (z_gI 1 a 6) (fun v55 => (z_bd (z_aI 10 v54 v55) (fun v56 => (z_bd (p_X1_isLetter v56) (fun r57 => (if r57 = 0 then (z_pu (.inr (.inl ()))) else (z_bd (z_gI 1 a 6) (fun v58 => (z_bd (z_pI 1 a 6 (v58 + 1)) (fun _ => (z_pu (.inl ()))))))))))))))))))))) ()) (fun t50 => (z_bd (z_gI 1 a 6) (fun v59 => (z_bd (z_gI 1 a 5) (fun v60 => (z_jn (τ := Int32) (if 8 < (v59 - v60) then (z_pu (.inl 4)) else (z_pu (.inl 1))) (fun t61 => (z_bd (z_pI 1 a 7 t61) (fun _ => (z_pu ())))))))))))))))))))) else (z_bd (z_pI 1 a 7 0) (fun _ => (z_pu ()))))))))))))))))))
set_option maxHeartbeats 4000000 in
set_option maxRecDepth 100000 in
theorem s_X1_nextToken (a : Nat) : z_Sound yX1_nextToken cX1_nextToken 1 none 2 40 (fun D b => [.ref (b + a)]) z_ivV (p_X1_nextToken a) := by
  refine z_ofSim rfl (by intro D b; exact Nat.le_of_ble_eq_true rfl) (fun X C hT => ?_)
  unfold p_X1_nextToken
  refine r_sub [(0, .ref (x_b X + a))] rfl ?_
  refine r_aload_n (pc := 0) C dX1_nextToken_0 rfl rfl ?_
  refine r_aload_n (pc := 1) C dX1_nextToken_1 rfl rfl ?_
  refine r_getI (pc := 2) C dX1_nextToken_2 fl_X1_38 rfl (fun v1 => ?_)
  refine r_putI (pc := 5) C dX1_nextToken_5 fl_X1_209 rfl rfl ?_
  refine r_jn 60 (fun (t2 : Unit) => [(0, .ref (x_b X + a))]) (fun (t2 : Unit) => []) (fun t2 => ?_) ?_
  · refine r_aload_n (pc := 60) C dX1_nextToken_60 rfl rfl ?_
    refine r_aload_n (pc := 61) C dX1_nextToken_61 rfl rfl ?_
    refine r_getI (pc := 62) C dX1_nextToken_62 fl_X1_209 rfl (fun v14 => ?_)
    refine r_putI (pc := 65) C dX1_nextToken_65 fl_X1_38 rfl rfl ?_
    refine r_aload_n (pc := 68) C dX1_nextToken_68 rfl rfl ?_
    refine r_getI (pc := 69) C dX1_nextToken_69 fl_X1_209 rfl (fun v15 => ?_)
    refine r_aload_n (pc := 72) C dX1_nextToken_72 rfl rfl ?_
    refine r_getI (pc := 73) C dX1_nextToken_73 fl_X1_25 rfl (fun v16 => ?_)
    refine r_icmp_lt (pc := 76) C (tgt := 87) dX1_nextToken_76 rfl (fun _ => ?_) (fun _ => ?_)
    · refine r_aload_n (pc := 87) C dX1_nextToken_87 rfl rfl ?_
      refine r_getA (pc := 88) C dX1_nextToken_88 fl_X1_15 rfl (fun v17 => ?_)
      refine r_aload_n (pc := 91) C dX1_nextToken_91 rfl rfl ?_
      refine r_getI (pc := 92) C dX1_nextToken_92 fl_X1_209 rfl (fun v18 => ?_)
      refine r_bald (pc := 95) C dX1_nextToken_95 (fun v19 => ?_)
      refine r_cSI (pc := 96) C [.int v19] [] (z_KX.zero hT) (s_X1_isLetter v19) mt_X1_isLetter dX1_nextToken_96 ml_X1_220 sm_X1_isLetter rfl rfl rfl (Nat.le_of_ble_eq_true rfl) ⟨Nat.le_of_ble_eq_true rfl, Nat.le_of_ble_eq_true rfl⟩ (fun r20 => ?_)
      refine r_if_eq (pc := 99) C (tgt := 167) dX1_nextToken_99 rfl (fun _ => ?_) (fun _ => ?_)
      · refine r_aload_n (pc := 167) C dX1_nextToken_167 rfl rfl ?_
        refine r_getA (pc := 168) C dX1_nextToken_168 fl_X1_15 rfl (fun v21 => ?_)
        refine r_aload_n (pc := 171) C dX1_nextToken_171 rfl rfl ?_
        refine r_getI (pc := 172) C dX1_nextToken_172 fl_X1_209 rfl (fun v22 => ?_)
        refine r_bald (pc := 175) C dX1_nextToken_175 (fun v23 => ?_)
        refine r_cSI (pc := 176) C [.int v23] [] (z_KX.zero hT) (s_X1_isDigit v23) mt_X1_isDigit dX1_nextToken_176 ml_X1_224 sm_X1_isDigit rfl rfl rfl (Nat.le_of_ble_eq_true rfl) ⟨Nat.le_of_ble_eq_true rfl, Nat.le_of_ble_eq_true rfl⟩ (fun r24 => ?_)
        refine r_if_eq (pc := 179) C (tgt := 275) dX1_nextToken_179 rfl (fun _ => ?_) (fun _ => ?_)
        · refine r_aload_n (pc := 275) C dX1_nextToken_275 rfl rfl ?_
          refine r_aload_n (pc := 276) C dX1_nextToken_276 rfl rfl ?_
          refine r_getA (pc := 277) C dX1_nextToken_277 fl_X1_15 rfl (fun v25 => ?_)
          refine r_aload_n (pc := 280) C dX1_nextToken_280 rfl rfl ?_
          refine r_getI (pc := 281) C dX1_nextToken_281 fl_X1_209 rfl (fun v26 => ?_)
          refine r_bald (pc := 284) C dX1_nextToken_284 (fun v27 => ?_)
          refine r_putI (pc := 285) C dX1_nextToken_285 fl_X1_191 rfl rfl ?_
          refine r_aload_n (pc := 288) C dX1_nextToken_288 rfl rfl ?_
          refine r_aload_n (pc := 289) C dX1_nextToken_289 rfl rfl ?_
          refine r_getA (pc := 290) C dX1_nextToken_290 fl_X1_15 rfl (fun v28 => ?_)
          refine r_aload_n (pc := 293) C dX1_nextToken_293 rfl rfl ?_
          refine r_getI (pc := 294) C dX1_nextToken_294 fl_X1_209 rfl (fun v29 => ?_)
          refine r_bald (pc := 297) C dX1_nextToken_297 (fun v30 => ?_)
          refine r_cSI (pc := 298) C [.int v30] [.ref (x_b X + a)] (z_KX.zero hT) (s_X1_isSignByte v30) mt_X1_isSignByte dX1_nextToken_298 ml_X1_227 sm_X1_isSignByte rfl rfl rfl (Nat.le_of_ble_eq_true rfl) ⟨Nat.le_of_ble_eq_true rfl, Nat.le_of_ble_eq_true rfl⟩ (fun r31 => ?_)
          refine r_jn 309 (fun (t32 : Int32) => [(0, .ref (x_b X + a))]) (fun (t32 : Int32) => [.int t32, .ref (x_b X + a)]) (fun t32 => ?_) ?_
          · refine r_putI (pc := 309) C dX1_nextToken_309 fl_X1_60 rfl rfl ?_
            refine r_aload_n (pc := 312) C dX1_nextToken_312 rfl rfl ?_
            refine r_dup (pc := 313) C dX1_nextToken_313 rfl ?_
            refine r_getI (pc := 314) C dX1_nextToken_314 fl_X1_38 rfl (fun v33 => ?_)
            refine r_iconst (pc := 317) C dX1_nextToken_317 ki_1 ?_
            refine r_iadd (pc := 318) C dX1_nextToken_318 ?_
            refine r_putI (pc := 319) C dX1_nextToken_319 fl_X1_38 rfl rfl ?_
            exact r_vret (pc := 322) C dX1_nextToken_322
          · refine r_if_eq (pc := 301) C (tgt := 308) dX1_nextToken_301 rfl (fun _ => ?_) (fun _ => ?_)
            · refine r_iconst (pc := 308) C dX1_nextToken_308 ki_4 ?_
              refine r_sub [(0, .ref (x_b X + a))] rfl ?_
              exact r_br (τ := Int32) 4
            · refine r_iconst (pc := 304) C dX1_nextToken_304 ki_3 ?_
              refine r_goto (pc := 305) C (tgt := 309) dX1_nextToken_305 rfl ?_
              refine r_sub [(0, .ref (x_b X + a))] rfl ?_
              exact r_br (τ := Int32) 3
        · refine r_aload_n (pc := 182) C dX1_nextToken_182 rfl rfl ?_
          refine r_iconst (pc := 183) C dX1_nextToken_183 ki_0 ?_
          refine r_putI (pc := 184) C dX1_nextToken_184 fl_X1_191 rfl rfl ?_
          refine r_jn 250 (fun (t34 : Unit) => [(0, .ref (x_b X + a))]) (fun (t34 : Unit) => []) (fun t34 => ?_) ?_
          · refine r_aload_n (pc := 250) C dX1_nextToken_250 rfl rfl ?_
            refine r_aload_n (pc := 251) C dX1_nextToken_251 rfl rfl ?_
            refine r_getI (pc := 252) C dX1_nextToken_252 fl_X1_38 rfl (fun v47 => ?_)
            refine r_aload_n (pc := 255) C dX1_nextToken_255 rfl rfl ?_
            refine r_getI (pc := 256) C dX1_nextToken_256 fl_X1_209 rfl (fun v48 => ?_)
            refine r_isub (pc := 259) C dX1_nextToken_259 ?_
            refine r_iconst (pc := 260) C dX1_nextToken_260 ki_4 ?_
            refine r_jn 269 (fun (t49 : Int32) => []) (fun (t49 : Int32) => [.int t49, .ref (x_b X + a)]) (fun t49 => ?_) ?_
            · refine r_putI (pc := 269) C dX1_nextToken_269 fl_X1_60 rfl rfl ?_
              refine r_goto (pc := 272) C (tgt := 322) dX1_nextToken_272 rfl ?_
              exact r_vret (pc := 322) C dX1_nextToken_322
            · refine r_icmp_gt (pc := 261) C (tgt := 268) dX1_nextToken_261 rfl (fun _ => ?_) (fun _ => ?_)
              · refine r_iconst (pc := 268) C dX1_nextToken_268 ki_4 ?_
                refine r_sub [] rfl ?_
                exact r_br (τ := Int32) 4
              · refine r_iconst (pc := 264) C dX1_nextToken_264 ki_2 ?_
                refine r_goto (pc := 265) C (tgt := 269) dX1_nextToken_265 rfl ?_
                refine r_sub [] rfl ?_
                exact r_br (τ := Int32) 2
          · refine r_sub [(0, .ref (x_b X + a))] rfl ?_
            refine r_lp (pc := 187) (fun (t35 : Unit) => [(0, .ref (x_b X + a))]) (fun t35 => ?_) ()
            refine r_aload_n (pc := 187) C dX1_nextToken_187 rfl rfl ?_
            refine r_getI (pc := 188) C dX1_nextToken_188 fl_X1_38 rfl (fun v36 => ?_)
            refine r_aload_n (pc := 191) C dX1_nextToken_191 rfl rfl ?_
            refine r_getI (pc := 192) C dX1_nextToken_192 fl_X1_25 rfl (fun v37 => ?_)
            refine r_icmp_ge (pc := 195) C (tgt := 250) dX1_nextToken_195 rfl (fun _ => ?_) (fun _ => ?_)
            · refine r_sub [(0, .ref (x_b X + a))] rfl ?_
              exact r_up (r_br (τ := Unit) ())
            · refine r_aload_n (pc := 198) C dX1_nextToken_198 rfl rfl ?_
              refine r_getA (pc := 199) C dX1_nextToken_199 fl_X1_15 rfl (fun v38 => ?_)
              refine r_aload_n (pc := 202) C dX1_nextToken_202 rfl rfl ?_
              refine r_getI (pc := 203) C dX1_nextToken_203 fl_X1_38 rfl (fun v39 => ?_)
              refine r_bald (pc := 206) C dX1_nextToken_206 (fun v40 => ?_)
              refine r_cSI (pc := 207) C [.int v40] [] (z_KX.up (z_KX.up (z_KX.zero hT))) (s_X1_isDigit v40) mt_X1_isDigit dX1_nextToken_207 ml_X1_224 sm_X1_isDigit rfl rfl rfl (Nat.le_of_ble_eq_true rfl) ⟨Nat.le_of_ble_eq_true rfl, Nat.le_of_ble_eq_true rfl⟩ (fun r41 => ?_)
              refine r_if_eq (pc := 210) C (tgt := 250) dX1_nextToken_210 rfl (fun _ => ?_) (fun _ => ?_)
              · refine r_sub [(0, .ref (x_b X + a))] rfl ?_
                exact r_up (r_br (τ := Unit) ())
              · refine r_aload_n (pc := 213) C dX1_nextToken_213 rfl rfl ?_
                refine r_bipush (pc := 214) C dX1_nextToken_214 kb_10 ?_
                refine r_aload_n (pc := 216) C dX1_nextToken_216 rfl rfl ?_
                refine r_getI (pc := 217) C dX1_nextToken_217 fl_X1_191 rfl (fun v42 => ?_)
                refine r_imul (pc := 220) C dX1_nextToken_220 ?_
                refine r_aload_n (pc := 221) C dX1_nextToken_221 rfl rfl ?_
                refine r_getA (pc := 222) C dX1_nextToken_222 fl_X1_15 rfl (fun v43 => ?_)
                refine r_aload_n (pc := 225) C dX1_nextToken_225 rfl rfl ?_
                refine r_getI (pc := 226) C dX1_nextToken_226 fl_X1_38 rfl (fun v44 => ?_)
                refine r_bald (pc := 229) C dX1_nextToken_229 (fun v45 => ?_)
                refine r_iadd (pc := 230) C dX1_nextToken_230 ?_
                refine r_bipush (pc := 231) C dX1_nextToken_231 kb_48 ?_
                refine r_isub (pc := 233) C dX1_nextToken_233 ?_
                refine r_putI (pc := 234) C dX1_nextToken_234 fl_X1_191 rfl rfl ?_
                refine r_aload_n (pc := 237) C dX1_nextToken_237 rfl rfl ?_
                refine r_dup (pc := 238) C dX1_nextToken_238 rfl ?_
                refine r_getI (pc := 239) C dX1_nextToken_239 fl_X1_38 rfl (fun v46 => ?_)
                refine r_iconst (pc := 242) C dX1_nextToken_242 ki_1 ?_
                refine r_iadd (pc := 243) C dX1_nextToken_243 ?_
                refine r_putI (pc := 244) C dX1_nextToken_244 fl_X1_38 rfl rfl ?_
                refine r_goto (pc := 247) C (tgt := 187) dX1_nextToken_247 rfl ?_
                refine r_sub [(0, .ref (x_b X + a))] rfl ?_
                exact r_br (τ := Unit) ()
      · refine r_jn 141 (fun (t50 : Unit) => [(0, .ref (x_b X + a))]) (fun (t50 : Unit) => []) (fun t50 => ?_) ?_
        · refine r_aload_n (pc := 141) C dX1_nextToken_141 rfl rfl ?_
          refine r_aload_n (pc := 142) C dX1_nextToken_142 rfl rfl ?_
          refine r_getI (pc := 143) C dX1_nextToken_143 fl_X1_38 rfl (fun v59 => ?_)
          refine r_aload_n (pc := 146) C dX1_nextToken_146 rfl rfl ?_
          refine r_getI (pc := 147) C dX1_nextToken_147 fl_X1_209 rfl (fun v60 => ?_)
          refine r_isub (pc := 150) C dX1_nextToken_150 ?_
          refine r_bipush (pc := 151) C dX1_nextToken_151 kb_8 ?_
          refine r_jn 161 (fun (t61 : Int32) => []) (fun (t61 : Int32) => [.int t61, .ref (x_b X + a)]) (fun t61 => ?_) ?_
          · refine r_putI (pc := 161) C dX1_nextToken_161 fl_X1_60 rfl rfl ?_
            refine r_goto (pc := 164) C (tgt := 322) dX1_nextToken_164 rfl ?_
            exact r_vret (pc := 322) C dX1_nextToken_322
          · refine r_icmp_gt (pc := 153) C (tgt := 160) dX1_nextToken_153 rfl (fun _ => ?_) (fun _ => ?_)
            · refine r_iconst (pc := 160) C dX1_nextToken_160 ki_4 ?_
              refine r_sub [] rfl ?_
              exact r_br (τ := Int32) 4
            · refine r_iconst (pc := 156) C dX1_nextToken_156 ki_1 ?_
              refine r_goto (pc := 157) C (tgt := 161) dX1_nextToken_157 rfl ?_
              refine r_sub [] rfl ?_
              exact r_br (τ := Int32) 1
        · refine r_sub [(0, .ref (x_b X + a))] rfl ?_
          refine r_lp (pc := 102) (fun (t51 : Unit) => [(0, .ref (x_b X + a))]) (fun t51 => ?_) ()
          refine r_aload_n (pc := 102) C dX1_nextToken_102 rfl rfl ?_
          refine r_getI (pc := 103) C dX1_nextToken_103 fl_X1_38 rfl (fun v52 => ?_)
          refine r_aload_n (pc := 106) C dX1_nextToken_106 rfl rfl ?_
          refine r_getI (pc := 107) C dX1_nextToken_107 fl_X1_25 rfl (fun v53 => ?_)
          refine r_icmp_ge (pc := 110) C (tgt := 141) dX1_nextToken_110 rfl (fun _ => ?_) (fun _ => ?_)
          · refine r_sub [(0, .ref (x_b X + a))] rfl ?_
            exact r_up (r_br (τ := Unit) ())
          · refine r_aload_n (pc := 113) C dX1_nextToken_113 rfl rfl ?_
            refine r_getA (pc := 114) C dX1_nextToken_114 fl_X1_15 rfl (fun v54 => ?_)
            refine r_aload_n (pc := 117) C dX1_nextToken_117 rfl rfl ?_
            refine r_getI (pc := 118) C dX1_nextToken_118 fl_X1_38 rfl (fun v55 => ?_)
            refine r_bald (pc := 121) C dX1_nextToken_121 (fun v56 => ?_)
            refine r_cSI (pc := 122) C [.int v56] [] (z_KX.up (z_KX.up (z_KX.zero hT))) (s_X1_isLetter v56) mt_X1_isLetter dX1_nextToken_122 ml_X1_220 sm_X1_isLetter rfl rfl rfl (Nat.le_of_ble_eq_true rfl) ⟨Nat.le_of_ble_eq_true rfl, Nat.le_of_ble_eq_true rfl⟩ (fun r57 => ?_)
            refine r_if_eq (pc := 125) C (tgt := 141) dX1_nextToken_125 rfl (fun _ => ?_) (fun _ => ?_)
            · refine r_sub [(0, .ref (x_b X + a))] rfl ?_
              exact r_up (r_br (τ := Unit) ())
            · refine r_aload_n (pc := 128) C dX1_nextToken_128 rfl rfl ?_
              refine r_dup (pc := 129) C dX1_nextToken_129 rfl ?_
              refine r_getI (pc := 130) C dX1_nextToken_130 fl_X1_38 rfl (fun v58 => ?_)
              refine r_iconst (pc := 133) C dX1_nextToken_133 ki_1 ?_
              refine r_iadd (pc := 134) C dX1_nextToken_134 ?_
              refine r_putI (pc := 135) C dX1_nextToken_135 fl_X1_38 rfl rfl ?_
              refine r_goto (pc := 138) C (tgt := 102) dX1_nextToken_138 rfl ?_
              refine r_sub [(0, .ref (x_b X + a))] rfl ?_
              exact r_br (τ := Unit) ()
    · refine r_aload_n (pc := 79) C dX1_nextToken_79 rfl rfl ?_
      refine r_iconst (pc := 80) C dX1_nextToken_80 ki_0 ?_
      refine r_putI (pc := 81) C dX1_nextToken_81 fl_X1_60 rfl rfl ?_
      refine r_goto (pc := 84) C (tgt := 322) dX1_nextToken_84 rfl ?_
      exact r_vret (pc := 322) C dX1_nextToken_322
  · refine r_sub [(0, .ref (x_b X + a))] rfl ?_
    refine r_lp (pc := 8) (fun (t3 : Unit) => [(0, .ref (x_b X + a))]) (fun t3 => ?_) ()
    refine r_aload_n (pc := 8) C dX1_nextToken_8 rfl rfl ?_
    refine r_getI (pc := 9) C dX1_nextToken_9 fl_X1_209 rfl (fun v4 => ?_)
    refine r_aload_n (pc := 12) C dX1_nextToken_12 rfl rfl ?_
    refine r_getI (pc := 13) C dX1_nextToken_13 fl_X1_25 rfl (fun v5 => ?_)
    refine r_icmp_ge (pc := 16) C (tgt := 60) dX1_nextToken_16 rfl (fun _ => ?_) (fun _ => ?_)
    · refine r_sub [(0, .ref (x_b X + a))] rfl ?_
      exact r_up (r_br (τ := Unit) ())
    · refine r_aload_n (pc := 19) C dX1_nextToken_19 rfl rfl ?_
      refine r_getA (pc := 20) C dX1_nextToken_20 fl_X1_15 rfl (fun v6 => ?_)
      refine r_aload_n (pc := 23) C dX1_nextToken_23 rfl rfl ?_
      refine r_getI (pc := 24) C dX1_nextToken_24 fl_X1_209 rfl (fun v7 => ?_)
      refine r_bald (pc := 27) C dX1_nextToken_27 (fun v8 => ?_)
      refine r_bipush (pc := 28) C dX1_nextToken_28 kb_32 ?_
      refine r_jn 47 (fun (t9 : Unit) => [(0, .ref (x_b X + a))]) (fun (t9 : Unit) => []) (fun t9 => ?_) ?_
      · refine r_aload_n (pc := 47) C dX1_nextToken_47 rfl rfl ?_
        refine r_dup (pc := 48) C dX1_nextToken_48 rfl ?_
        refine r_getI (pc := 49) C dX1_nextToken_49 fl_X1_209 rfl (fun v13 => ?_)
        refine r_iconst (pc := 52) C dX1_nextToken_52 ki_1 ?_
        refine r_iadd (pc := 53) C dX1_nextToken_53 ?_
        refine r_putI (pc := 54) C dX1_nextToken_54 fl_X1_209 rfl rfl ?_
        refine r_goto (pc := 57) C (tgt := 8) dX1_nextToken_57 rfl ?_
        refine r_sub [(0, .ref (x_b X + a))] rfl ?_
        exact r_br (τ := Unit) ()
      · refine r_icmp_eq (pc := 30) C (tgt := 47) dX1_nextToken_30 rfl (fun _ => ?_) (fun _ => ?_)
        · refine r_sub [(0, .ref (x_b X + a))] rfl ?_
          exact r_br (τ := Unit) ()
        · refine r_aload_n (pc := 33) C dX1_nextToken_33 rfl rfl ?_
          refine r_getA (pc := 34) C dX1_nextToken_34 fl_X1_15 rfl (fun v10 => ?_)
          refine r_aload_n (pc := 37) C dX1_nextToken_37 rfl rfl ?_
          refine r_getI (pc := 38) C dX1_nextToken_38 fl_X1_209 rfl (fun v11 => ?_)
          refine r_bald (pc := 41) C dX1_nextToken_41 (fun v12 => ?_)
          refine r_bipush (pc := 42) C dX1_nextToken_42 kb_10 ?_
          refine r_icmp_ne (pc := 44) C (tgt := 60) dX1_nextToken_44 rfl (fun _ => ?_) (fun _ => ?_)
          · refine r_sub [(0, .ref (x_b X + a))] rfl ?_
            exact r_br (τ := Unit) ()
          · refine r_sub [(0, .ref (x_b X + a))] rfl ?_
            exact r_up (r_up (r_br (τ := Unit) ()))
noncomputable def p_X1_isWord (a : Nat) (p1 : Nat) : zP Int32 := (z_bd (z_gI 1 a 7) (fun v1 => (if v1 = 1 then (z_bd (z_gI 1 a 6) (fun v2 => (z_bd (z_gI 1 a 5) (fun v3 => (z_bd (z_strlen p1) (fun v4 => (if (v2 - v3) = v4 then (z_lp (fun (t5 : Int32) => (z_bd (z_strlen p1) (fun v6 => (if v6 ≤ t5 then (z_pu (.inr 1)) else (z_bd (z_gA 1 a 2) (fun v7 => (z_bd (z_gI 1 a 5) (fun v8 => (z_bd (z_aI 10 v7 (v8 + t5)) (fun v9 => (z_bd (z_charAt p1 t5) (fun v10 => (if v9 = v10 then (z_pu (.inl ((t5 + 1)))) else (z_pu (.inr 0))))))))))))))) 0) else (z_pu 0)))))))) else (z_pu 0))))
set_option maxHeartbeats 4000000 in
set_option maxRecDepth 100000 in
theorem s_X1_isWord (a : Nat) (p1 : Nat) : z_Sound yX1_isWord cX1_isWord 3 (some .boolean) 8 200 (fun D b => [.ref (b + a), .ref (D.2.2.2.1 p1)]) z_ivI (p_X1_isWord a p1) := by
  refine z_ofSim rfl (by intro D b; exact Nat.le_of_ble_eq_true rfl) (fun X C hT => ?_)
  unfold p_X1_isWord
  refine r_sub [(0, .ref (x_b X + a)), (1, .ref ((x_D X).2.2.2.1 p1))] rfl ?_
  refine r_aload_n (pc := 0) C dX1_isWord_0 rfl rfl ?_
  refine r_getI (pc := 1) C dX1_isWord_1 fl_X1_60 rfl (fun v1 => ?_)
  refine r_iconst (pc := 4) C dX1_isWord_4 ki_1 ?_
  refine r_icmp_ne (pc := 5) C (tgt := 24) dX1_isWord_5 rfl (fun _ => ?_) (fun _ => ?_)
  · refine r_aload_n (pc := 8) C dX1_isWord_8 rfl rfl ?_
    refine r_getI (pc := 9) C dX1_isWord_9 fl_X1_38 rfl (fun v2 => ?_)
    refine r_aload_n (pc := 12) C dX1_isWord_12 rfl rfl ?_
    refine r_getI (pc := 13) C dX1_isWord_13 fl_X1_209 rfl (fun v3 => ?_)
    refine r_isub (pc := 16) C dX1_isWord_16 ?_
    refine r_aload_n (pc := 17) C dX1_isWord_17 rfl rfl ?_
    refine r_strlen (pc := 18) C [.int (v2 - v3)] (z_KX.zero hT) dX1_isWord_18 ml_X1_212 (Nat.le_of_ble_eq_true rfl) (Nat.le_of_ble_eq_true rfl) (Nat.le_of_ble_eq_true rfl) (fun v4 => ?_)
    refine r_icmp_eq (pc := 21) C (tgt := 26) dX1_isWord_21 rfl (fun _ => ?_) (fun _ => ?_)
    · refine r_iconst (pc := 26) C dX1_isWord_26 ki_0 ?_
      refine r_sti_n (pc := 27) C 2 [(0, .ref (x_b X + a)), (1, .ref ((x_D X).2.2.2.1 p1)), (2, .int 0)] dX1_isWord_27 rfl (by decide) rfl ?_
      refine r_sub [(0, .ref (x_b X + a)), (1, .ref ((x_D X).2.2.2.1 p1)), (2, .int 0)] rfl ?_
      refine r_lp (pc := 28) (fun (t5 : Int32) => [(0, .ref (x_b X + a)), (1, .ref ((x_D X).2.2.2.1 p1)), (2, .int t5)]) (fun t5 => ?_) 0
      refine r_iload_n (pc := 28) C dX1_isWord_28 rfl rfl ?_
      refine r_aload_n (pc := 29) C dX1_isWord_29 rfl rfl ?_
      refine r_strlen (pc := 30) C [.int t5] (z_KX.up (z_KX.zero hT)) dX1_isWord_30 ml_X1_212 (Nat.le_of_ble_eq_true rfl) (Nat.le_of_ble_eq_true rfl) (Nat.le_of_ble_eq_true rfl) (fun v6 => ?_)
      refine r_icmp_ge (pc := 33) C (tgt := 63) dX1_isWord_33 rfl (fun _ => ?_) (fun _ => ?_)
      · refine r_iconst (pc := 63) C dX1_isWord_63 ki_1 ?_
        exact r_up (r_zret1 (pc := 64) C dX1_isWord_64 (by decide))
      · refine r_aload_n (pc := 36) C dX1_isWord_36 rfl rfl ?_
        refine r_getA (pc := 37) C dX1_isWord_37 fl_X1_15 rfl (fun v7 => ?_)
        refine r_aload_n (pc := 40) C dX1_isWord_40 rfl rfl ?_
        refine r_getI (pc := 41) C dX1_isWord_41 fl_X1_209 rfl (fun v8 => ?_)
        refine r_iload_n (pc := 44) C dX1_isWord_44 rfl rfl ?_
        refine r_iadd (pc := 45) C dX1_isWord_45 ?_
        refine r_bald (pc := 46) C dX1_isWord_46 (fun v9 => ?_)
        refine r_aload_n (pc := 47) C dX1_isWord_47 rfl rfl ?_
        refine r_iload_n (pc := 48) C dX1_isWord_48 rfl rfl ?_
        refine r_charAt (pc := 49) C [.int v9] (z_KX.up (z_KX.zero hT)) dX1_isWord_49 ml_X1_216 (Nat.le_of_ble_eq_true rfl) (Nat.le_of_ble_eq_true rfl) (Nat.le_of_ble_eq_true rfl) (fun v10 => ?_)
        refine r_icmp_eq (pc := 52) C (tgt := 57) dX1_isWord_52 rfl (fun _ => ?_) (fun _ => ?_)
        · refine r_inc (pc := 57) C 1 [(0, .ref (x_b X + a)), (1, .ref ((x_D X).2.2.2.1 p1)), (2, .int (t5 + 1))] dX1_isWord_57 rfl ki_1 (by decide) rfl ?_
          refine r_goto (pc := 60) C (tgt := 28) dX1_isWord_60 rfl ?_
          refine r_sub [(0, .ref (x_b X + a)), (1, .ref ((x_D X).2.2.2.1 p1)), (2, .int (t5 + 1))] rfl ?_
          exact r_br (τ := Int32) ((t5 + 1))
        · refine r_iconst (pc := 55) C dX1_isWord_55 ki_0 ?_
          exact r_up (r_zret1 (pc := 56) C dX1_isWord_56 (by decide))
    · refine r_iconst (pc := 24) C dX1_isWord_24 ki_0 ?_
      exact r_zret1 (pc := 25) C dX1_isWord_25 (by decide)
  · refine r_iconst (pc := 24) C dX1_isWord_24 ki_0 ?_
    exact r_zret1 (pc := 25) C dX1_isWord_25 (by decide)
noncomputable def p_X1_fail (a : Nat) (p1 : Int32) : zP Unit := (z_bd (z_gI 1 a 9) (fun v1 => (if v1 = 0 then (z_bd (z_gI 1 a 5) (fun v2 => (z_bd (z_pI 1 a 9 ((8 * v2) + p1)) (fun _ => (z_pu ()))))) else (z_pu ()))))
set_option maxHeartbeats 4000000 in
set_option maxRecDepth 100000 in
theorem s_X1_fail (a : Nat) (p1 : Int32) : z_Sound yX1_fail cX1_fail 2 none 1 20 (fun D b => [.ref (b + a), .int p1]) z_ivV (p_X1_fail a p1) := by
  refine z_ofSim rfl (by intro D b; exact Nat.le_of_ble_eq_true rfl) (fun X C hT => ?_)
  unfold p_X1_fail
  refine r_sub [(0, .ref (x_b X + a)), (1, .int p1)] rfl ?_
  refine r_aload_n (pc := 0) C dX1_fail_0 rfl rfl ?_
  refine r_getI (pc := 1) C dX1_fail_1 fl_X1_41 rfl (fun v1 => ?_)
  refine r_if_ne (pc := 4) C (tgt := 20) dX1_fail_4 rfl (fun _ => ?_) (fun _ => ?_)
  · refine r_aload_n (pc := 7) C dX1_fail_7 rfl rfl ?_
    refine r_bipush (pc := 8) C dX1_fail_8 kb_8 ?_
    refine r_aload_n (pc := 10) C dX1_fail_10 rfl rfl ?_
    refine r_getI (pc := 11) C dX1_fail_11 fl_X1_209 rfl (fun v2 => ?_)
    refine r_imul (pc := 14) C dX1_fail_14 ?_
    refine r_iload_n (pc := 15) C dX1_fail_15 rfl rfl ?_
    refine r_iadd (pc := 16) C dX1_fail_16 ?_
    refine r_putI (pc := 17) C dX1_fail_17 fl_X1_41 rfl rfl ?_
    exact r_vret (pc := 20) C dX1_fail_20
  · exact r_vret (pc := 20) C dX1_fail_20
noncomputable def p_X1_takeCountedWord (a : Nat) (p1 : Int32) (p2 : Int32) : zP Unit := (z_jn (τ := Unit) (if p1 < p2 then (z_pu (.inl ())) else (z_bd (z_cv 1 a (p_X1_fail a 4)) (fun _ => (z_pu (.inl ()))))) (fun t1 => (z_bd (z_cv 1 a (p_X1_nextToken a)) (fun _ => (z_pu ())))))
set_option maxHeartbeats 4000000 in
set_option maxRecDepth 100000 in
theorem s_X1_takeCountedWord (a : Nat) (p1 : Int32) (p2 : Int32) : z_Sound yX1_takeCountedWord cX1_takeCountedWord 3 none 3 60 (fun D b => [.ref (b + a), .int p1, .int p2]) z_ivV (p_X1_takeCountedWord a p1 p2) := by
  refine z_ofSim rfl (by intro D b; exact Nat.le_of_ble_eq_true rfl) (fun X C hT => ?_)
  unfold p_X1_takeCountedWord
  refine r_sub [(0, .ref (x_b X + a)), (1, .int p1), (2, .int p2)] rfl ?_
  refine r_iload_n (pc := 0) C dX1_takeCountedWord_0 rfl rfl ?_
  refine r_iload_n (pc := 1) C dX1_takeCountedWord_1 rfl rfl ?_
  refine r_jn 10 (fun (t1 : Unit) => [(0, .ref (x_b X + a))]) (fun (t1 : Unit) => []) (fun t1 => ?_) ?_
  · refine r_aload_n (pc := 10) C dX1_takeCountedWord_10 rfl rfl ?_
    refine r_cVV (pc := 11) C [] [] (z_KX.zero hT) (s_X1_nextToken a) mt_X1_nextToken zc_1 dX1_takeCountedWord_11 ml_X1_57 im_X1_nextToken se_X1_nextToken rfl rfl rfl (Nat.le_of_ble_eq_true rfl) ⟨Nat.le_of_ble_eq_true rfl, Nat.le_of_ble_eq_true rfl⟩ ?_
    exact r_vret (pc := 14) C dX1_takeCountedWord_14
  · refine r_icmp_lt (pc := 2) C (tgt := 10) dX1_takeCountedWord_2 rfl (fun _ => ?_) (fun _ => ?_)
    · refine r_sub [(0, .ref (x_b X + a))] rfl ?_
      exact r_br (τ := Unit) ()
    · refine r_aload_n (pc := 5) C dX1_takeCountedWord_5 rfl rfl ?_
      refine r_iconst (pc := 6) C dX1_takeCountedWord_6 ki_4 ?_
      refine r_cVV (pc := 7) C [.int 4] [] (z_KX.up (z_KX.zero hT)) (s_X1_fail a 4) mt_X1_fail zc_1 dX1_takeCountedWord_7 ml_X1_109 im_X1_fail se_X1_fail rfl rfl rfl (Nat.le_of_ble_eq_true rfl) ⟨Nat.le_of_ble_eq_true rfl, Nat.le_of_ble_eq_true rfl⟩ ?_
      refine r_sub [(0, .ref (x_b X + a))] rfl ?_
      exact r_br (τ := Unit) ()
noncomputable def p_X1_takeNumber (a : Nat) (p1 : Int32) (p2 : Int32) : zP Int32 := (z_bd (z_gI 1 a 8) (fun v1 => (z_bd (z_gI 1 a 7) (fun v2 => (z_jn (τ := Unit) (if v2 = 2 then (z_jn (τ := Unit) (if v1 < p1 then (z_pu (.inl ())) else (if v1 ≤ p2 then (z_pu (.inr (.inl ()))) else (z_pu (.inl ())))) (fun t4 => (z_bd (z_cv 1 a (p_X1_fail a 3)) (fun _ => (z_pu (.inl ())))))) else (z_bd (z_cv 1 a (p_X1_fail a 1)) (fun _ => (z_pu (.inl ()))))) (fun t3 => (z_bd (z_cv 1 a (p_X1_nextToken a)) (fun _ => (z_pu v1)))))))))
set_option maxHeartbeats 4000000 in
set_option maxRecDepth 100000 in
theorem s_X1_takeNumber (a : Nat) (p1 : Int32) (p2 : Int32) : z_Sound yX1_takeNumber cX1_takeNumber 4 (some .int) 3 60 (fun D b => [.ref (b + a), .int p1, .int p2]) z_ivI (p_X1_takeNumber a p1 p2) := by
  refine z_ofSim rfl (by intro D b; exact Nat.le_of_ble_eq_true rfl) (fun X C hT => ?_)
  unfold p_X1_takeNumber
  refine r_sub [(0, .ref (x_b X + a)), (1, .int p1), (2, .int p2)] rfl ?_
  refine r_aload_n (pc := 0) C dX1_takeNumber_0 rfl rfl ?_
  refine r_getI (pc := 1) C dX1_takeNumber_1 fl_X1_191 rfl (fun v1 => ?_)
  refine r_sti_n (pc := 4) C 3 [(0, .ref (x_b X + a)), (1, .int p1), (2, .int p2), (3, .int v1)] dX1_takeNumber_4 rfl (by decide) rfl ?_
  refine r_aload_n (pc := 5) C dX1_takeNumber_5 rfl rfl ?_
  refine r_getI (pc := 6) C dX1_takeNumber_6 fl_X1_60 rfl (fun v2 => ?_)
  refine r_iconst (pc := 9) C dX1_takeNumber_9 ki_2 ?_
  refine r_jn 36 (fun (t3 : Unit) => [(0, .ref (x_b X + a)), (3, .int v1)]) (fun (t3 : Unit) => []) (fun t3 => ?_) ?_
  · refine r_aload_n (pc := 36) C dX1_takeNumber_36 rfl rfl ?_
    refine r_cVV (pc := 37) C [] [] (z_KX.zero hT) (s_X1_nextToken a) mt_X1_nextToken zc_1 dX1_takeNumber_37 ml_X1_57 im_X1_nextToken se_X1_nextToken rfl rfl rfl (Nat.le_of_ble_eq_true rfl) ⟨Nat.le_of_ble_eq_true rfl, Nat.le_of_ble_eq_true rfl⟩ ?_
    refine r_iload_n (pc := 40) C dX1_takeNumber_40 rfl rfl ?_
    exact r_iret (pc := 41) C dX1_takeNumber_41
  · refine r_icmp_eq (pc := 10) C (tgt := 21) dX1_takeNumber_10 rfl (fun _ => ?_) (fun _ => ?_)
    · refine r_iload_n (pc := 21) C dX1_takeNumber_21 rfl rfl ?_
      refine r_iload_n (pc := 22) C dX1_takeNumber_22 rfl rfl ?_
      refine r_jn 31 (fun (t4 : Unit) => [(0, .ref (x_b X + a)), (3, .int v1)]) (fun (t4 : Unit) => []) (fun t4 => ?_) ?_
      · refine r_aload_n (pc := 31) C dX1_takeNumber_31 rfl rfl ?_
        refine r_iconst (pc := 32) C dX1_takeNumber_32 ki_3 ?_
        refine r_cVV (pc := 33) C [.int 3] [] (z_KX.up (z_KX.zero hT)) (s_X1_fail a 3) mt_X1_fail zc_1 dX1_takeNumber_33 ml_X1_109 im_X1_fail se_X1_fail rfl rfl rfl (Nat.le_of_ble_eq_true rfl) ⟨Nat.le_of_ble_eq_true rfl, Nat.le_of_ble_eq_true rfl⟩ ?_
        refine r_sub [(0, .ref (x_b X + a)), (3, .int v1)] rfl ?_
        exact r_br (τ := Unit) ()
      · refine r_icmp_lt (pc := 23) C (tgt := 31) dX1_takeNumber_23 rfl (fun _ => ?_) (fun _ => ?_)
        · refine r_sub [(0, .ref (x_b X + a)), (3, .int v1)] rfl ?_
          exact r_br (τ := Unit) ()
        · refine r_iload_n (pc := 26) C dX1_takeNumber_26 rfl rfl ?_
          refine r_iload_n (pc := 27) C dX1_takeNumber_27 rfl rfl ?_
          refine r_icmp_le (pc := 28) C (tgt := 36) dX1_takeNumber_28 rfl (fun _ => ?_) (fun _ => ?_)
          · refine r_sub [(0, .ref (x_b X + a)), (3, .int v1)] rfl ?_
            exact r_up (r_br (τ := Unit) ())
          · refine r_sub [(0, .ref (x_b X + a)), (3, .int v1)] rfl ?_
            exact r_br (τ := Unit) ()
    · refine r_aload_n (pc := 13) C dX1_takeNumber_13 rfl rfl ?_
      refine r_iconst (pc := 14) C dX1_takeNumber_14 ki_1 ?_
      refine r_cVV (pc := 15) C [.int 1] [] (z_KX.up (z_KX.zero hT)) (s_X1_fail a 1) mt_X1_fail zc_1 dX1_takeNumber_15 ml_X1_109 im_X1_fail se_X1_fail rfl rfl rfl (Nat.le_of_ble_eq_true rfl) ⟨Nat.le_of_ble_eq_true rfl, Nat.le_of_ble_eq_true rfl⟩ ?_
      refine r_goto (pc := 18) C (tgt := 36) dX1_takeNumber_18 rfl ?_
      refine r_sub [(0, .ref (x_b X + a)), (3, .int v1)] rfl ?_
      exact r_br (τ := Unit) ()
noncomputable def p_X1_readStation (a : Nat) : zP Unit := (z_bd (z_gA 1 a 3) (fun v1 => (z_bd (z_gI 0 v1 10) (fun v2 => (z_bd (z_cv 1 a (p_X1_takeCountedWord a v2 8)) (fun _ => (z_bd (z_cv 1 a (p_X1_takeNumber a 0 99)) (fun r4 => (z_bd (z_cv 1 a (p_X1_takeNumber a 0 99)) (fun r5 => (z_bd (z_cv 1 a (p_X1_takeNumber a 1 20)) (fun r6 => (z_bd (z_cv 1 a (p_X1_takeNumber a 0 r6)) (fun r7 => (z_bd (z_gI 1 a 9) (fun v8 => (if v8 = 0 then (z_bd (z_gA 1 a 3) (fun v9 => (z_bd (z_cv 0 v9 (p_X0_addStation v9 r4 r5 r6 r7)) (fun _ => (z_pu ()))))) else (z_pu ()))))))))))))))))))
set_option maxHeartbeats 4000000 in
set_option maxRecDepth 100000 in
theorem s_X1_readStation (a : Nat) : z_Sound yX1_readStation cX1_readStation 5 none 4 83 (fun D b => [.ref (b + a)]) z_ivV (p_X1_readStation a) := by
  refine z_ofSim rfl (by intro D b; exact Nat.le_of_ble_eq_true rfl) (fun X C hT => ?_)
  unfold p_X1_readStation
  refine r_sub [(0, .ref (x_b X + a))] rfl ?_
  refine r_aload_n (pc := 0) C dX1_readStation_0 rfl rfl ?_
  refine r_aload_n (pc := 1) C dX1_readStation_1 rfl rfl ?_
  refine r_getA (pc := 2) C dX1_readStation_2 fl_X1_29 rfl (fun v1 => ?_)
  refine r_getI (pc := 5) C dX1_readStation_5 fl_X1_113 rfl (fun v2 => ?_)
  refine r_bipush (pc := 8) C dX1_readStation_8 kb_8 ?_
  refine r_cVV (pc := 10) C [.int v2, .int 8] [] (z_KX.zero hT) (s_X1_takeCountedWord a v2 8) mt_X1_takeCountedWord zc_1 dX1_readStation_10 ml_X1_116 im_X1_takeCountedWord se_X1_takeCountedWord rfl rfl rfl (Nat.le_of_ble_eq_true rfl) ⟨Nat.le_of_ble_eq_true rfl, Nat.le_of_ble_eq_true rfl⟩ ?_
  refine r_aload_n (pc := 13) C dX1_readStation_13 rfl rfl ?_
  refine r_iconst (pc := 14) C dX1_readStation_14 ki_0 ?_
  refine r_bipush (pc := 15) C dX1_readStation_15 kb_99 ?_
  refine r_cVI (pc := 17) C [.int 0, .int 99] [] (z_KX.zero hT) (s_X1_takeNumber a 0 99) mt_X1_takeNumber zc_1 dX1_readStation_17 ml_X1_120 im_X1_takeNumber se_X1_takeNumber rfl rfl rfl (Nat.le_of_ble_eq_true rfl) ⟨Nat.le_of_ble_eq_true rfl, Nat.le_of_ble_eq_true rfl⟩ (fun r4 => ?_)
  refine r_sti_n (pc := 20) C 1 [(0, .ref (x_b X + a)), (1, .int r4)] dX1_readStation_20 rfl (by decide) rfl ?_
  refine r_aload_n (pc := 21) C dX1_readStation_21 rfl rfl ?_
  refine r_iconst (pc := 22) C dX1_readStation_22 ki_0 ?_
  refine r_bipush (pc := 23) C dX1_readStation_23 kb_99 ?_
  refine r_cVI (pc := 25) C [.int 0, .int 99] [] (z_KX.zero hT) (s_X1_takeNumber a 0 99) mt_X1_takeNumber zc_1 dX1_readStation_25 ml_X1_120 im_X1_takeNumber se_X1_takeNumber rfl rfl rfl (Nat.le_of_ble_eq_true rfl) ⟨Nat.le_of_ble_eq_true rfl, Nat.le_of_ble_eq_true rfl⟩ (fun r5 => ?_)
  refine r_sti_n (pc := 28) C 2 [(0, .ref (x_b X + a)), (1, .int r4), (2, .int r5)] dX1_readStation_28 rfl (by decide) rfl ?_
  refine r_aload_n (pc := 29) C dX1_readStation_29 rfl rfl ?_
  refine r_iconst (pc := 30) C dX1_readStation_30 ki_1 ?_
  refine r_bipush (pc := 31) C dX1_readStation_31 kb_20 ?_
  refine r_cVI (pc := 33) C [.int 1, .int 20] [] (z_KX.zero hT) (s_X1_takeNumber a 1 20) mt_X1_takeNumber zc_1 dX1_readStation_33 ml_X1_120 im_X1_takeNumber se_X1_takeNumber rfl rfl rfl (Nat.le_of_ble_eq_true rfl) ⟨Nat.le_of_ble_eq_true rfl, Nat.le_of_ble_eq_true rfl⟩ (fun r6 => ?_)
  refine r_sti_n (pc := 36) C 3 [(0, .ref (x_b X + a)), (1, .int r4), (2, .int r5), (3, .int r6)] dX1_readStation_36 rfl (by decide) rfl ?_
  refine r_aload_n (pc := 37) C dX1_readStation_37 rfl rfl ?_
  refine r_iconst (pc := 38) C dX1_readStation_38 ki_0 ?_
  refine r_iload_n (pc := 39) C dX1_readStation_39 rfl rfl ?_
  refine r_cVI (pc := 40) C [.int 0, .int r6] [] (z_KX.zero hT) (s_X1_takeNumber a 0 r6) mt_X1_takeNumber zc_1 dX1_readStation_40 ml_X1_120 im_X1_takeNumber se_X1_takeNumber rfl rfl rfl (Nat.le_of_ble_eq_true rfl) ⟨Nat.le_of_ble_eq_true rfl, Nat.le_of_ble_eq_true rfl⟩ (fun r7 => ?_)
  refine r_sti (pc := 43) C [(0, .ref (x_b X + a)), (1, .int r4), (2, .int r5), (3, .int r6), (4, .int r7)] dX1_readStation_43 (by decide) rfl ?_
  refine r_aload_n (pc := 45) C dX1_readStation_45 rfl rfl ?_
  refine r_getI (pc := 46) C dX1_readStation_46 fl_X1_41 rfl (fun v8 => ?_)
  refine r_if_ne (pc := 49) C (tgt := 64) dX1_readStation_49 rfl (fun _ => ?_) (fun _ => ?_)
  · refine r_aload_n (pc := 52) C dX1_readStation_52 rfl rfl ?_
    refine r_getA (pc := 53) C dX1_readStation_53 fl_X1_29 rfl (fun v9 => ?_)
    refine r_iload_n (pc := 56) C dX1_readStation_56 rfl rfl ?_
    refine r_iload_n (pc := 57) C dX1_readStation_57 rfl rfl ?_
    refine r_iload_n (pc := 58) C dX1_readStation_58 rfl rfl ?_
    refine r_iload (pc := 59) C dX1_readStation_59 rfl ?_
    refine r_cVV (pc := 61) C [.int r4, .int r5, .int r6, .int r7] [] (z_KX.zero hT) (s_X0_addStation v9 r4 r5 r6 r7) mt_X0_addStation zc_0 dX1_readStation_61 ml_X1_123 im_X0_addStation se_X0_addStation rfl rfl rfl (Nat.le_of_ble_eq_true rfl) ⟨Nat.le_of_ble_eq_true rfl, Nat.le_of_ble_eq_true rfl⟩ ?_
    exact r_vret (pc := 64) C dX1_readStation_64
  · exact r_vret (pc := 64) C dX1_readStation_64
noncomputable def p_X1_readTruck (a : Nat) : zP Unit := (z_bd (z_gA 1 a 3) (fun v1 => (z_bd (z_gI 0 v1 11) (fun v2 => (z_bd (z_cv 1 a (p_X1_takeCountedWord a v2 3)) (fun _ => (z_bd (z_gA 1 a 3) (fun v4 => (z_bd (z_gI 0 v4 10) (fun v5 => (z_bd (z_cv 1 a (p_X1_takeNumber a 0 (v5 - 1))) (fun r6 => (z_bd (z_cv 1 a (p_X1_takeNumber a 1 20)) (fun r7 => (z_bd (z_gI 1 a 9) (fun v8 => (if v8 = 0 then (z_bd (z_gA 1 a 3) (fun v9 => (z_bd (z_cv 0 v9 (p_X0_addTruck v9 r6 r7)) (fun _ => (z_pu ()))))) else (z_pu ()))))))))))))))))))
set_option maxHeartbeats 4000000 in
set_option maxRecDepth 100000 in
theorem s_X1_readTruck (a : Nat) : z_Sound yX1_readTruck cX1_readTruck 3 none 4 83 (fun D b => [.ref (b + a)]) z_ivV (p_X1_readTruck a) := by
  refine z_ofSim rfl (by intro D b; exact Nat.le_of_ble_eq_true rfl) (fun X C hT => ?_)
  unfold p_X1_readTruck
  refine r_sub [(0, .ref (x_b X + a))] rfl ?_
  refine r_aload_n (pc := 0) C dX1_readTruck_0 rfl rfl ?_
  refine r_aload_n (pc := 1) C dX1_readTruck_1 rfl rfl ?_
  refine r_getA (pc := 2) C dX1_readTruck_2 fl_X1_29 rfl (fun v1 => ?_)
  refine r_getI (pc := 5) C dX1_readTruck_5 fl_X1_127 rfl (fun v2 => ?_)
  refine r_iconst (pc := 8) C dX1_readTruck_8 ki_3 ?_
  refine r_cVV (pc := 9) C [.int v2, .int 3] [] (z_KX.zero hT) (s_X1_takeCountedWord a v2 3) mt_X1_takeCountedWord zc_1 dX1_readTruck_9 ml_X1_116 im_X1_takeCountedWord se_X1_takeCountedWord rfl rfl rfl (Nat.le_of_ble_eq_true rfl) ⟨Nat.le_of_ble_eq_true rfl, Nat.le_of_ble_eq_true rfl⟩ ?_
  refine r_aload_n (pc := 12) C dX1_readTruck_12 rfl rfl ?_
  refine r_iconst (pc := 13) C dX1_readTruck_13 ki_0 ?_
  refine r_aload_n (pc := 14) C dX1_readTruck_14 rfl rfl ?_
  refine r_getA (pc := 15) C dX1_readTruck_15 fl_X1_29 rfl (fun v4 => ?_)
  refine r_getI (pc := 18) C dX1_readTruck_18 fl_X1_113 rfl (fun v5 => ?_)
  refine r_iconst (pc := 21) C dX1_readTruck_21 ki_1 ?_
  refine r_isub (pc := 22) C dX1_readTruck_22 ?_
  refine r_cVI (pc := 23) C [.int 0, .int (v5 - 1)] [] (z_KX.zero hT) (s_X1_takeNumber a 0 (v5 - 1)) mt_X1_takeNumber zc_1 dX1_readTruck_23 ml_X1_120 im_X1_takeNumber se_X1_takeNumber rfl rfl rfl (Nat.le_of_ble_eq_true rfl) ⟨Nat.le_of_ble_eq_true rfl, Nat.le_of_ble_eq_true rfl⟩ (fun r6 => ?_)
  refine r_sti_n (pc := 26) C 1 [(0, .ref (x_b X + a)), (1, .int r6)] dX1_readTruck_26 rfl (by decide) rfl ?_
  refine r_aload_n (pc := 27) C dX1_readTruck_27 rfl rfl ?_
  refine r_iconst (pc := 28) C dX1_readTruck_28 ki_1 ?_
  refine r_bipush (pc := 29) C dX1_readTruck_29 kb_20 ?_
  refine r_cVI (pc := 31) C [.int 1, .int 20] [] (z_KX.zero hT) (s_X1_takeNumber a 1 20) mt_X1_takeNumber zc_1 dX1_readTruck_31 ml_X1_120 im_X1_takeNumber se_X1_takeNumber rfl rfl rfl (Nat.le_of_ble_eq_true rfl) ⟨Nat.le_of_ble_eq_true rfl, Nat.le_of_ble_eq_true rfl⟩ (fun r7 => ?_)
  refine r_sti_n (pc := 34) C 2 [(0, .ref (x_b X + a)), (1, .int r6), (2, .int r7)] dX1_readTruck_34 rfl (by decide) rfl ?_
  refine r_aload_n (pc := 35) C dX1_readTruck_35 rfl rfl ?_
  refine r_getI (pc := 36) C dX1_readTruck_36 fl_X1_41 rfl (fun v8 => ?_)
  refine r_if_ne (pc := 39) C (tgt := 51) dX1_readTruck_39 rfl (fun _ => ?_) (fun _ => ?_)
  · refine r_aload_n (pc := 42) C dX1_readTruck_42 rfl rfl ?_
    refine r_getA (pc := 43) C dX1_readTruck_43 fl_X1_29 rfl (fun v9 => ?_)
    refine r_iload_n (pc := 46) C dX1_readTruck_46 rfl rfl ?_
    refine r_iload_n (pc := 47) C dX1_readTruck_47 rfl rfl ?_
    refine r_cVV (pc := 48) C [.int r6, .int r7] [] (z_KX.zero hT) (s_X0_addTruck v9 r6 r7) mt_X0_addTruck zc_0 dX1_readTruck_48 ml_X1_130 im_X0_addTruck se_X0_addTruck rfl rfl rfl (Nat.le_of_ble_eq_true rfl) ⟨Nat.le_of_ble_eq_true rfl, Nat.le_of_ble_eq_true rfl⟩ ?_
    exact r_vret (pc := 51) C dX1_readTruck_51
  · exact r_vret (pc := 51) C dX1_readTruck_51
noncomputable def p_X1_readTrip (a : Nat) : zP Unit := (z_bd (z_gA 1 a 3) (fun v1 => (z_bd (z_gI 0 v1 12) (fun v2 => (z_bd (z_cv 1 a (p_X1_takeCountedWord a v2 30)) (fun _ => (z_bd (z_gA 1 a 3) (fun v4 => (z_bd (z_gI 0 v4 10) (fun v5 => (z_bd (z_cv 1 a (p_X1_takeNumber a 0 (v5 - 1))) (fun r6 => (z_bd (z_gA 1 a 3) (fun v7 => (z_bd (z_gI 0 v7 10) (fun v8 => (z_bd (z_cv 1 a (p_X1_takeNumber a 0 (v8 - 1))) (fun r9 => (z_bd (z_cv 1 a (p_X1_takeNumber a 0 1439)) (fun r10 => (z_bd (z_gI 1 a 9) (fun v11 => (if v11 = 0 then (z_bd (z_gA 1 a 3) (fun v12 => (z_bd (z_cv 0 v12 (p_X0_addTrip v12 r6 r9 r10)) (fun _ => (z_pu ()))))) else (z_pu ()))))))))))))))))))))))))
set_option maxHeartbeats 4000000 in
set_option maxRecDepth 100000 in
theorem s_X1_readTrip (a : Nat) : z_Sound yX1_readTrip cX1_readTrip 4 none 4 83 (fun D b => [.ref (b + a)]) z_ivV (p_X1_readTrip a) := by
  refine z_ofSim rfl (by intro D b; exact Nat.le_of_ble_eq_true rfl) (fun X C hT => ?_)
  unfold p_X1_readTrip
  refine r_sub [(0, .ref (x_b X + a))] rfl ?_
  refine r_aload_n (pc := 0) C dX1_readTrip_0 rfl rfl ?_
  refine r_aload_n (pc := 1) C dX1_readTrip_1 rfl rfl ?_
  refine r_getA (pc := 2) C dX1_readTrip_2 fl_X1_29 rfl (fun v1 => ?_)
  refine r_getI (pc := 5) C dX1_readTrip_5 fl_X1_133 rfl (fun v2 => ?_)
  refine r_bipush (pc := 8) C dX1_readTrip_8 kb_30 ?_
  refine r_cVV (pc := 10) C [.int v2, .int 30] [] (z_KX.zero hT) (s_X1_takeCountedWord a v2 30) mt_X1_takeCountedWord zc_1 dX1_readTrip_10 ml_X1_116 im_X1_takeCountedWord se_X1_takeCountedWord rfl rfl rfl (Nat.le_of_ble_eq_true rfl) ⟨Nat.le_of_ble_eq_true rfl, Nat.le_of_ble_eq_true rfl⟩ ?_
  refine r_aload_n (pc := 13) C dX1_readTrip_13 rfl rfl ?_
  refine r_iconst (pc := 14) C dX1_readTrip_14 ki_0 ?_
  refine r_aload_n (pc := 15) C dX1_readTrip_15 rfl rfl ?_
  refine r_getA (pc := 16) C dX1_readTrip_16 fl_X1_29 rfl (fun v4 => ?_)
  refine r_getI (pc := 19) C dX1_readTrip_19 fl_X1_113 rfl (fun v5 => ?_)
  refine r_iconst (pc := 22) C dX1_readTrip_22 ki_1 ?_
  refine r_isub (pc := 23) C dX1_readTrip_23 ?_
  refine r_cVI (pc := 24) C [.int 0, .int (v5 - 1)] [] (z_KX.zero hT) (s_X1_takeNumber a 0 (v5 - 1)) mt_X1_takeNumber zc_1 dX1_readTrip_24 ml_X1_120 im_X1_takeNumber se_X1_takeNumber rfl rfl rfl (Nat.le_of_ble_eq_true rfl) ⟨Nat.le_of_ble_eq_true rfl, Nat.le_of_ble_eq_true rfl⟩ (fun r6 => ?_)
  refine r_sti_n (pc := 27) C 1 [(0, .ref (x_b X + a)), (1, .int r6)] dX1_readTrip_27 rfl (by decide) rfl ?_
  refine r_aload_n (pc := 28) C dX1_readTrip_28 rfl rfl ?_
  refine r_iconst (pc := 29) C dX1_readTrip_29 ki_0 ?_
  refine r_aload_n (pc := 30) C dX1_readTrip_30 rfl rfl ?_
  refine r_getA (pc := 31) C dX1_readTrip_31 fl_X1_29 rfl (fun v7 => ?_)
  refine r_getI (pc := 34) C dX1_readTrip_34 fl_X1_113 rfl (fun v8 => ?_)
  refine r_iconst (pc := 37) C dX1_readTrip_37 ki_1 ?_
  refine r_isub (pc := 38) C dX1_readTrip_38 ?_
  refine r_cVI (pc := 39) C [.int 0, .int (v8 - 1)] [] (z_KX.zero hT) (s_X1_takeNumber a 0 (v8 - 1)) mt_X1_takeNumber zc_1 dX1_readTrip_39 ml_X1_120 im_X1_takeNumber se_X1_takeNumber rfl rfl rfl (Nat.le_of_ble_eq_true rfl) ⟨Nat.le_of_ble_eq_true rfl, Nat.le_of_ble_eq_true rfl⟩ (fun r9 => ?_)
  refine r_sti_n (pc := 42) C 2 [(0, .ref (x_b X + a)), (1, .int r6), (2, .int r9)] dX1_readTrip_42 rfl (by decide) rfl ?_
  refine r_aload_n (pc := 43) C dX1_readTrip_43 rfl rfl ?_
  refine r_iconst (pc := 44) C dX1_readTrip_44 ki_0 ?_
  refine r_sipush (pc := 45) C dX1_readTrip_45 ks_1439 ?_
  refine r_cVI (pc := 48) C [.int 0, .int 1439] [] (z_KX.zero hT) (s_X1_takeNumber a 0 1439) mt_X1_takeNumber zc_1 dX1_readTrip_48 ml_X1_120 im_X1_takeNumber se_X1_takeNumber rfl rfl rfl (Nat.le_of_ble_eq_true rfl) ⟨Nat.le_of_ble_eq_true rfl, Nat.le_of_ble_eq_true rfl⟩ (fun r10 => ?_)
  refine r_sti_n (pc := 51) C 3 [(0, .ref (x_b X + a)), (1, .int r6), (2, .int r9), (3, .int r10)] dX1_readTrip_51 rfl (by decide) rfl ?_
  refine r_aload_n (pc := 52) C dX1_readTrip_52 rfl rfl ?_
  refine r_getI (pc := 53) C dX1_readTrip_53 fl_X1_41 rfl (fun v11 => ?_)
  refine r_if_ne (pc := 56) C (tgt := 69) dX1_readTrip_56 rfl (fun _ => ?_) (fun _ => ?_)
  · refine r_aload_n (pc := 59) C dX1_readTrip_59 rfl rfl ?_
    refine r_getA (pc := 60) C dX1_readTrip_60 fl_X1_29 rfl (fun v12 => ?_)
    refine r_iload_n (pc := 63) C dX1_readTrip_63 rfl rfl ?_
    refine r_iload_n (pc := 64) C dX1_readTrip_64 rfl rfl ?_
    refine r_iload_n (pc := 65) C dX1_readTrip_65 rfl rfl ?_
    refine r_cVV (pc := 66) C [.int r6, .int r9, .int r10] [] (z_KX.zero hT) (s_X0_addTrip v12 r6 r9 r10) mt_X0_addTrip zc_0 dX1_readTrip_66 ml_X1_136 im_X0_addTrip se_X0_addTrip rfl rfl rfl (Nat.le_of_ble_eq_true rfl) ⟨Nat.le_of_ble_eq_true rfl, Nat.le_of_ble_eq_true rfl⟩ ?_
    exact r_vret (pc := 69) C dX1_readTrip_69
  · exact r_vret (pc := 69) C dX1_readTrip_69
noncomputable def p_X1_takeSingleWord (a : Nat) (p1 : Int32) : zP Unit := (z_jn (τ := Unit) (if p1 = 0 then (z_pu (.inl ())) else (z_bd (z_cv 1 a (p_X1_fail a 2)) (fun _ => (z_pu (.inl ()))))) (fun t1 => (z_bd (z_cv 1 a (p_X1_nextToken a)) (fun _ => (z_pu ())))))
set_option maxHeartbeats 4000000 in
set_option maxRecDepth 100000 in
theorem s_X1_takeSingleWord (a : Nat) (p1 : Int32) : z_Sound yX1_takeSingleWord cX1_takeSingleWord 2 none 3 60 (fun D b => [.ref (b + a), .int p1]) z_ivV (p_X1_takeSingleWord a p1) := by
  refine z_ofSim rfl (by intro D b; exact Nat.le_of_ble_eq_true rfl) (fun X C hT => ?_)
  unfold p_X1_takeSingleWord
  refine r_sub [(0, .ref (x_b X + a)), (1, .int p1)] rfl ?_
  refine r_iload_n (pc := 0) C dX1_takeSingleWord_0 rfl rfl ?_
  refine r_jn 9 (fun (t1 : Unit) => [(0, .ref (x_b X + a))]) (fun (t1 : Unit) => []) (fun t1 => ?_) ?_
  · refine r_aload_n (pc := 9) C dX1_takeSingleWord_9 rfl rfl ?_
    refine r_cVV (pc := 10) C [] [] (z_KX.zero hT) (s_X1_nextToken a) mt_X1_nextToken zc_1 dX1_takeSingleWord_10 ml_X1_57 im_X1_nextToken se_X1_nextToken rfl rfl rfl (Nat.le_of_ble_eq_true rfl) ⟨Nat.le_of_ble_eq_true rfl, Nat.le_of_ble_eq_true rfl⟩ ?_
    exact r_vret (pc := 13) C dX1_takeSingleWord_13
  · refine r_if_eq (pc := 1) C (tgt := 9) dX1_takeSingleWord_1 rfl (fun _ => ?_) (fun _ => ?_)
    · refine r_sub [(0, .ref (x_b X + a))] rfl ?_
      exact r_br (τ := Unit) ()
    · refine r_aload_n (pc := 4) C dX1_takeSingleWord_4 rfl rfl ?_
      refine r_iconst (pc := 5) C dX1_takeSingleWord_5 ki_2 ?_
      refine r_cVV (pc := 6) C [.int 2] [] (z_KX.up (z_KX.zero hT)) (s_X1_fail a 2) mt_X1_fail zc_1 dX1_takeSingleWord_6 ml_X1_109 im_X1_fail se_X1_fail rfl rfl rfl (Nat.le_of_ble_eq_true rfl) ⟨Nat.le_of_ble_eq_true rfl, Nat.le_of_ble_eq_true rfl⟩ ?_
      refine r_sub [(0, .ref (x_b X + a))] rfl ?_
      exact r_br (τ := Unit) ()
noncomputable def p_X1_readPace (a : Nat) : zP Unit := (z_bd (z_gI 1 a 10) (fun v1 => (z_bd (z_cv 1 a (p_X1_takeSingleWord a v1)) (fun _ => (z_bd (z_pZ 1 a 10 1) (fun _ => (z_bd (z_gA 1 a 3) (fun v3 => (z_bd (z_cv 1 a (p_X1_takeNumber a 0 99)) (fun r4 => (z_bd (z_pI 0 v3 13 r4) (fun _ => (z_bd (z_gA 1 a 3) (fun v5 => (z_bd (z_cv 1 a (p_X1_takeNumber a 0 99)) (fun r6 => (z_bd (z_pI 0 v5 14 r6) (fun _ => (z_pu ())))))))))))))))))))
set_option maxHeartbeats 4000000 in
set_option maxRecDepth 100000 in
theorem s_X1_readPace (a : Nat) : z_Sound yX1_readPace cX1_readPace 1 none 4 83 (fun D b => [.ref (b + a)]) z_ivV (p_X1_readPace a) := by
  refine z_ofSim rfl (by intro D b; exact Nat.le_of_ble_eq_true rfl) (fun X C hT => ?_)
  unfold p_X1_readPace
  refine r_sub [(0, .ref (x_b X + a))] rfl ?_
  refine r_aload_n (pc := 0) C dX1_readPace_0 rfl rfl ?_
  refine r_aload_n (pc := 1) C dX1_readPace_1 rfl rfl ?_
  refine r_getI (pc := 2) C dX1_readPace_2 fl_X1_44 rfl (fun v1 => ?_)
  refine r_cVV (pc := 5) C [.int v1] [] (z_KX.zero hT) (s_X1_takeSingleWord a v1) mt_X1_takeSingleWord zc_1 dX1_readPace_5 ml_X1_140 im_X1_takeSingleWord se_X1_takeSingleWord rfl rfl rfl (Nat.le_of_ble_eq_true rfl) ⟨Nat.le_of_ble_eq_true rfl, Nat.le_of_ble_eq_true rfl⟩ ?_
  refine r_aload_n (pc := 8) C dX1_readPace_8 rfl rfl ?_
  refine r_iconst (pc := 9) C dX1_readPace_9 ki_1 ?_
  refine r_putZ (pc := 10) C dX1_readPace_10 fl_X1_44 rfl rfl ?_
  refine r_aload_n (pc := 13) C dX1_readPace_13 rfl rfl ?_
  refine r_getA (pc := 14) C dX1_readPace_14 fl_X1_29 rfl (fun v3 => ?_)
  refine r_aload_n (pc := 17) C dX1_readPace_17 rfl rfl ?_
  refine r_iconst (pc := 18) C dX1_readPace_18 ki_0 ?_
  refine r_bipush (pc := 19) C dX1_readPace_19 kb_99 ?_
  refine r_cVI (pc := 21) C [.int 0, .int 99] [.ref (x_b X + v3)] (z_KX.zero hT) (s_X1_takeNumber a 0 99) mt_X1_takeNumber zc_1 dX1_readPace_21 ml_X1_120 im_X1_takeNumber se_X1_takeNumber rfl rfl rfl (Nat.le_of_ble_eq_true rfl) ⟨Nat.le_of_ble_eq_true rfl, Nat.le_of_ble_eq_true rfl⟩ (fun r4 => ?_)
  refine r_putI (pc := 24) C dX1_readPace_24 fl_X1_144 rfl rfl ?_
  refine r_aload_n (pc := 27) C dX1_readPace_27 rfl rfl ?_
  refine r_getA (pc := 28) C dX1_readPace_28 fl_X1_29 rfl (fun v5 => ?_)
  refine r_aload_n (pc := 31) C dX1_readPace_31 rfl rfl ?_
  refine r_iconst (pc := 32) C dX1_readPace_32 ki_0 ?_
  refine r_bipush (pc := 33) C dX1_readPace_33 kb_99 ?_
  refine r_cVI (pc := 35) C [.int 0, .int 99] [.ref (x_b X + v5)] (z_KX.zero hT) (s_X1_takeNumber a 0 99) mt_X1_takeNumber zc_1 dX1_readPace_35 ml_X1_120 im_X1_takeNumber se_X1_takeNumber rfl rfl rfl (Nat.le_of_ble_eq_true rfl) ⟨Nat.le_of_ble_eq_true rfl, Nat.le_of_ble_eq_true rfl⟩ (fun r6 => ?_)
  refine r_putI (pc := 38) C dX1_readPace_38 fl_X1_147 rfl rfl ?_
  exact r_vret (pc := 41) C dX1_readPace_41
noncomputable def p_X1_readBalance (a : Nat) : zP Unit := (z_bd (z_gI 1 a 11) (fun v1 => (z_bd (z_cv 1 a (p_X1_takeSingleWord a v1)) (fun _ => (z_bd (z_pZ 1 a 11 1) (fun _ => (z_bd (z_gA 1 a 3) (fun v3 => (z_bd (z_cv 1 a (p_X1_takeNumber a 0 50)) (fun r4 => (z_bd (z_pI 0 v3 15 r4) (fun _ => (z_pu ())))))))))))))
set_option maxHeartbeats 4000000 in
set_option maxRecDepth 100000 in
theorem s_X1_readBalance (a : Nat) : z_Sound yX1_readBalance cX1_readBalance 1 none 4 83 (fun D b => [.ref (b + a)]) z_ivV (p_X1_readBalance a) := by
  refine z_ofSim rfl (by intro D b; exact Nat.le_of_ble_eq_true rfl) (fun X C hT => ?_)
  unfold p_X1_readBalance
  refine r_sub [(0, .ref (x_b X + a))] rfl ?_
  refine r_aload_n (pc := 0) C dX1_readBalance_0 rfl rfl ?_
  refine r_aload_n (pc := 1) C dX1_readBalance_1 rfl rfl ?_
  refine r_getI (pc := 2) C dX1_readBalance_2 fl_X1_48 rfl (fun v1 => ?_)
  refine r_cVV (pc := 5) C [.int v1] [] (z_KX.zero hT) (s_X1_takeSingleWord a v1) mt_X1_takeSingleWord zc_1 dX1_readBalance_5 ml_X1_140 im_X1_takeSingleWord se_X1_takeSingleWord rfl rfl rfl (Nat.le_of_ble_eq_true rfl) ⟨Nat.le_of_ble_eq_true rfl, Nat.le_of_ble_eq_true rfl⟩ ?_
  refine r_aload_n (pc := 8) C dX1_readBalance_8 rfl rfl ?_
  refine r_iconst (pc := 9) C dX1_readBalance_9 ki_1 ?_
  refine r_putZ (pc := 10) C dX1_readBalance_10 fl_X1_48 rfl rfl ?_
  refine r_aload_n (pc := 13) C dX1_readBalance_13 rfl rfl ?_
  refine r_getA (pc := 14) C dX1_readBalance_14 fl_X1_29 rfl (fun v3 => ?_)
  refine r_aload_n (pc := 17) C dX1_readBalance_17 rfl rfl ?_
  refine r_iconst (pc := 18) C dX1_readBalance_18 ki_0 ?_
  refine r_bipush (pc := 19) C dX1_readBalance_19 kb_50 ?_
  refine r_cVI (pc := 21) C [.int 0, .int 50] [.ref (x_b X + v3)] (z_KX.zero hT) (s_X1_takeNumber a 0 50) mt_X1_takeNumber zc_1 dX1_readBalance_21 ml_X1_120 im_X1_takeNumber se_X1_takeNumber rfl rfl rfl (Nat.le_of_ble_eq_true rfl) ⟨Nat.le_of_ble_eq_true rfl, Nat.le_of_ble_eq_true rfl⟩ (fun r4 => ?_)
  refine r_putI (pc := 24) C dX1_readBalance_24 fl_X1_150 rfl rfl ?_
  exact r_vret (pc := 27) C dX1_readBalance_27
noncomputable def p_X1_readBonus (a : Nat) : zP Unit := (z_bd (z_gI 1 a 12) (fun v1 => (z_bd (z_cv 1 a (p_X1_takeSingleWord a v1)) (fun _ => (z_bd (z_pZ 1 a 12 1) (fun _ => (z_bd (z_gA 1 a 3) (fun v3 => (z_bd (z_cv 1 a (p_X1_takeNumber a 0 100)) (fun r4 => (z_bd (z_pI 0 v3 16 r4) (fun _ => (z_bd (z_gA 1 a 3) (fun v5 => (z_bd (z_cv 1 a (p_X1_takeNumber a 0 999)) (fun r6 => (z_bd (z_pI 0 v5 17 r6) (fun _ => (z_pu ())))))))))))))))))))
set_option maxHeartbeats 4000000 in
set_option maxRecDepth 100000 in
theorem s_X1_readBonus (a : Nat) : z_Sound yX1_readBonus cX1_readBonus 1 none 4 83 (fun D b => [.ref (b + a)]) z_ivV (p_X1_readBonus a) := by
  refine z_ofSim rfl (by intro D b; exact Nat.le_of_ble_eq_true rfl) (fun X C hT => ?_)
  unfold p_X1_readBonus
  refine r_sub [(0, .ref (x_b X + a))] rfl ?_
  refine r_aload_n (pc := 0) C dX1_readBonus_0 rfl rfl ?_
  refine r_aload_n (pc := 1) C dX1_readBonus_1 rfl rfl ?_
  refine r_getI (pc := 2) C dX1_readBonus_2 fl_X1_51 rfl (fun v1 => ?_)
  refine r_cVV (pc := 5) C [.int v1] [] (z_KX.zero hT) (s_X1_takeSingleWord a v1) mt_X1_takeSingleWord zc_1 dX1_readBonus_5 ml_X1_140 im_X1_takeSingleWord se_X1_takeSingleWord rfl rfl rfl (Nat.le_of_ble_eq_true rfl) ⟨Nat.le_of_ble_eq_true rfl, Nat.le_of_ble_eq_true rfl⟩ ?_
  refine r_aload_n (pc := 8) C dX1_readBonus_8 rfl rfl ?_
  refine r_iconst (pc := 9) C dX1_readBonus_9 ki_1 ?_
  refine r_putZ (pc := 10) C dX1_readBonus_10 fl_X1_51 rfl rfl ?_
  refine r_aload_n (pc := 13) C dX1_readBonus_13 rfl rfl ?_
  refine r_getA (pc := 14) C dX1_readBonus_14 fl_X1_29 rfl (fun v3 => ?_)
  refine r_aload_n (pc := 17) C dX1_readBonus_17 rfl rfl ?_
  refine r_iconst (pc := 18) C dX1_readBonus_18 ki_0 ?_
  refine r_bipush (pc := 19) C dX1_readBonus_19 kb_100 ?_
  refine r_cVI (pc := 21) C [.int 0, .int 100] [.ref (x_b X + v3)] (z_KX.zero hT) (s_X1_takeNumber a 0 100) mt_X1_takeNumber zc_1 dX1_readBonus_21 ml_X1_120 im_X1_takeNumber se_X1_takeNumber rfl rfl rfl (Nat.le_of_ble_eq_true rfl) ⟨Nat.le_of_ble_eq_true rfl, Nat.le_of_ble_eq_true rfl⟩ (fun r4 => ?_)
  refine r_putI (pc := 24) C dX1_readBonus_24 fl_X1_153 rfl rfl ?_
  refine r_aload_n (pc := 27) C dX1_readBonus_27 rfl rfl ?_
  refine r_getA (pc := 28) C dX1_readBonus_28 fl_X1_29 rfl (fun v5 => ?_)
  refine r_aload_n (pc := 31) C dX1_readBonus_31 rfl rfl ?_
  refine r_iconst (pc := 32) C dX1_readBonus_32 ki_0 ?_
  refine r_sipush (pc := 33) C dX1_readBonus_33 ks_999 ?_
  refine r_cVI (pc := 36) C [.int 0, .int 999] [.ref (x_b X + v5)] (z_KX.zero hT) (s_X1_takeNumber a 0 999) mt_X1_takeNumber zc_1 dX1_readBonus_36 ml_X1_120 im_X1_takeNumber se_X1_takeNumber rfl rfl rfl (Nat.le_of_ble_eq_true rfl) ⟨Nat.le_of_ble_eq_true rfl, Nat.le_of_ble_eq_true rfl⟩ (fun r6 => ?_)
  refine r_putI (pc := 39) C dX1_readBonus_39 fl_X1_156 rfl rfl ?_
  exact r_vret (pc := 42) C dX1_readBonus_42
noncomputable def p_X1_isSign (a : Nat) (p1 : Int32) : zP Int32 := (z_bd (z_gI 1 a 7) (fun v1 => (if v1 = 3 then (z_bd (z_gI 1 a 8) (fun v2 => (if v2 = p1 then (z_pu 1) else (z_pu 0)))) else (z_pu 0))))
set_option maxHeartbeats 4000000 in
set_option maxRecDepth 100000 in
theorem s_X1_isSign (a : Nat) (p1 : Int32) : z_Sound yX1_isSign cX1_isSign 2 (some .boolean) 1 20 (fun D b => [.ref (b + a), .int p1]) z_ivI (p_X1_isSign a p1) := by
  refine z_ofSim rfl (by intro D b; exact Nat.le_of_ble_eq_true rfl) (fun X C hT => ?_)
  unfold p_X1_isSign
  refine r_sub [(0, .ref (x_b X + a)), (1, .int p1)] rfl ?_
  refine r_aload_n (pc := 0) C dX1_isSign_0 rfl rfl ?_
  refine r_getI (pc := 1) C dX1_isSign_1 fl_X1_60 rfl (fun v1 => ?_)
  refine r_iconst (pc := 4) C dX1_isSign_4 ki_3 ?_
  refine r_icmp_ne (pc := 5) C (tgt := 20) dX1_isSign_5 rfl (fun _ => ?_) (fun _ => ?_)
  · refine r_aload_n (pc := 8) C dX1_isSign_8 rfl rfl ?_
    refine r_getI (pc := 9) C dX1_isSign_9 fl_X1_191 rfl (fun v2 => ?_)
    refine r_iload_n (pc := 12) C dX1_isSign_12 rfl rfl ?_
    refine r_icmp_ne (pc := 13) C (tgt := 20) dX1_isSign_13 rfl (fun _ => ?_) (fun _ => ?_)
    · refine r_iconst (pc := 16) C dX1_isSign_16 ki_1 ?_
      refine r_goto (pc := 17) C (tgt := 21) dX1_isSign_17 rfl ?_
      exact r_zret1 (pc := 21) C dX1_isSign_21 (by decide)
    · refine r_iconst (pc := 20) C dX1_isSign_20 ki_0 ?_
      exact r_zret1 (pc := 21) C dX1_isSign_21 (by decide)
  · refine r_iconst (pc := 20) C dX1_isSign_20 ki_0 ?_
    exact r_zret1 (pc := 21) C dX1_isSign_21 (by decide)
noncomputable def p_X1_holdOperator (a : Nat) (p1 : Int32) : zP Unit := (z_bd (z_gI 1 a 1) (fun v1 => (z_bd (z_gA 1 a 0) (fun v2 => (z_bd (z_al 11 v2) (fun v3 => (if v3 ≤ v1 then (z_pu ()) else (z_bd (z_gA 1 a 0) (fun v4 => (z_bd (z_gI 1 a 1) (fun v5 => (z_bd (z_sI 11 v4 v5 p1) (fun _ => (z_bd (z_gI 1 a 1) (fun v6 => (z_bd (z_pI 1 a 1 (v6 + 1)) (fun _ => (z_pu ()))))))))))))))))))
set_option maxHeartbeats 4000000 in
set_option maxRecDepth 100000 in
theorem s_X1_holdOperator (a : Nat) (p1 : Int32) : z_Sound yX1_holdOperator cX1_holdOperator 2 none 1 20 (fun D b => [.ref (b + a), .int p1]) z_ivV (p_X1_holdOperator a p1) := by
  refine z_ofSim rfl (by intro D b; exact Nat.le_of_ble_eq_true rfl) (fun X C hT => ?_)
  unfold p_X1_holdOperator
  refine r_sub [(0, .ref (x_b X + a)), (1, .int p1)] rfl ?_
  refine r_aload_n (pc := 0) C dX1_holdOperator_0 rfl rfl ?_
  refine r_getI (pc := 1) C dX1_holdOperator_1 fl_X1_165 rfl (fun v1 => ?_)
  refine r_aload_n (pc := 4) C dX1_holdOperator_4 rfl rfl ?_
  refine r_getA (pc := 5) C dX1_holdOperator_5 fl_X1_9 rfl (fun v2 => ?_)
  refine r_alen (pc := 8) C (by decide) dX1_holdOperator_8 (fun v3 => ?_)
  refine r_icmp_ge (pc := 9) C (tgt := 32) dX1_holdOperator_9 rfl (fun _ => ?_) (fun _ => ?_)
  · exact r_vret (pc := 32) C dX1_holdOperator_32
  · refine r_aload_n (pc := 12) C dX1_holdOperator_12 rfl rfl ?_
    refine r_getA (pc := 13) C dX1_holdOperator_13 fl_X1_9 rfl (fun v4 => ?_)
    refine r_aload_n (pc := 16) C dX1_holdOperator_16 rfl rfl ?_
    refine r_getI (pc := 17) C dX1_holdOperator_17 fl_X1_165 rfl (fun v5 => ?_)
    refine r_iload_n (pc := 20) C dX1_holdOperator_20 rfl rfl ?_
    refine r_iast (pc := 21) C dX1_holdOperator_21 ?_
    refine r_aload_n (pc := 22) C dX1_holdOperator_22 rfl rfl ?_
    refine r_dup (pc := 23) C dX1_holdOperator_23 rfl ?_
    refine r_getI (pc := 24) C dX1_holdOperator_24 fl_X1_165 rfl (fun v6 => ?_)
    refine r_iconst (pc := 27) C dX1_holdOperator_27 ki_1 ?_
    refine r_iadd (pc := 28) C dX1_holdOperator_28 ?_
    refine r_putI (pc := 29) C dX1_holdOperator_29 fl_X1_165 rfl rfl ?_
    exact r_vret (pc := 32) C dX1_holdOperator_32
noncomputable def p_X1_takeFactor (a : Nat) : zP Unit := (z_bd (z_gI 1 a 7) (fun v1 => (if v1 = 2 then (z_bd (z_gA 1 a 3) (fun v19 => (z_bd (z_gA 0 v19 9) (fun v20 => (z_bd (z_gI 1 a 8) (fun v21 => (z_bd (z_cv 2 v20 (p_X2_add v20 v21)) (fun _ => (z_pu ()))))))))) else (z_bd (z_cv 1 a (p_X1_isWord a 8)) (fun r2 => (if r2 = 0 then (z_bd (z_cv 1 a (p_X1_isWord a 9)) (fun r3 => (if r3 = 0 then (z_bd (z_cv 1 a (p_X1_isWord a 10)) (fun r4 => (if r4 = 0 then (z_bd (z_cv 1 a (p_X1_isWord a 11)) (fun r5 => (if r5 = 0 then (z_bd (z_cv 1 a (p_X1_fail a 1)) (fun _ => (z_pu ()))) else (z_bd (z_gA 1 a 3) (fun v7 => (z_bd (z_gA 0 v7 9) (fun v8 => (z_bd (z_cv 2 v8 (p_X2_add v8 (-4))) (fun _ => (z_pu ())))))))))) else (z_bd (z_gA 1 a 3) (fun v10 => (z_bd (z_gA 0 v10 9) (fun v11 => (z_bd (z_cv 2 v11 (p_X2_add v11 (-3))) (fun _ => (z_pu ())))))))))) else (z_bd (z_gA 1 a 3) (fun v13 => (z_bd (z_gA 0 v13 9) (fun v14 => (z_bd (z_cv 2 v14 (p_X2_add v14 (-2))) (fun _ => (z_pu ())))))))))) else (z_bd (z_gA 1 a 3) (fun v16 => (z_bd (z_gA 0 v16 9) (fun v17 => (z_bd (z_cv 2 v17 (p_X2_add v17 (-1))) (fun _ => (z_pu ())))))))))))))
set_option maxHeartbeats 4000000 in
set_option maxRecDepth 100000 in
theorem s_X1_takeFactor (a : Nat) : z_Sound yX1_takeFactor cX1_takeFactor 1 none 9 222 (fun D b => [.ref (b + a)]) z_ivV (p_X1_takeFactor a) := by
  refine z_ofSim rfl (by intro D b; exact Nat.le_of_ble_eq_true rfl) (fun X C hT => ?_)
  unfold p_X1_takeFactor
  refine r_sub [(0, .ref (x_b X + a))] rfl ?_
  refine r_aload_n (pc := 0) C dX1_takeFactor_0 rfl rfl ?_
  refine r_getI (pc := 1) C dX1_takeFactor_1 fl_X1_60 rfl (fun v1 => ?_)
  refine r_iconst (pc := 4) C dX1_takeFactor_4 ki_2 ?_
  refine r_icmp_ne (pc := 5) C (tgt := 25) dX1_takeFactor_5 rfl (fun _ => ?_) (fun _ => ?_)
  · refine r_aload_n (pc := 8) C dX1_takeFactor_8 rfl rfl ?_
    refine r_getA (pc := 9) C dX1_takeFactor_9 fl_X1_29 rfl (fun v19 => ?_)
    refine r_getA (pc := 12) C dX1_takeFactor_12 fl_X1_159 rfl (fun v20 => ?_)
    refine r_aload_n (pc := 15) C dX1_takeFactor_15 rfl rfl ?_
    refine r_getI (pc := 16) C dX1_takeFactor_16 fl_X1_191 rfl (fun v21 => ?_)
    refine r_cVV (pc := 19) C [.int v21] [] (z_KX.zero hT) (s_X2_add v20 v21) mt_X2_add zc_2 dX1_takeFactor_19 ml_X1_194 im_X2_add se_X2_add rfl rfl rfl (Nat.le_of_ble_eq_true rfl) ⟨Nat.le_of_ble_eq_true rfl, Nat.le_of_ble_eq_true rfl⟩ ?_
    refine r_goto (pc := 22) C (tgt := 125) dX1_takeFactor_22 rfl ?_
    exact r_vret (pc := 125) C dX1_takeFactor_125
  · refine r_aload_n (pc := 25) C dX1_takeFactor_25 rfl rfl ?_
    refine r_ldcS (pc := 26) C 8 dX1_takeFactor_26 rfl ?_
    refine r_cVI (pc := 28) C [.ref ((x_D X).2.2.2.1 8)] [] (z_KX.zero hT) (s_X1_isWord a 8) mt_X1_isWord zc_1 dX1_takeFactor_28 ml_X1_72 im_X1_isWord se_X1_isWord rfl rfl rfl (Nat.le_of_ble_eq_true rfl) ⟨Nat.le_of_ble_eq_true rfl, Nat.le_of_ble_eq_true rfl⟩ (fun r2 => ?_)
    refine r_if_eq (pc := 31) C (tgt := 48) dX1_takeFactor_31 rfl (fun _ => ?_) (fun _ => ?_)
    · refine r_aload_n (pc := 48) C dX1_takeFactor_48 rfl rfl ?_
      refine r_ldcS (pc := 49) C 9 dX1_takeFactor_49 rfl ?_
      refine r_cVI (pc := 51) C [.ref ((x_D X).2.2.2.1 9)] [] (z_KX.zero hT) (s_X1_isWord a 9) mt_X1_isWord zc_1 dX1_takeFactor_51 ml_X1_72 im_X1_isWord se_X1_isWord rfl rfl rfl (Nat.le_of_ble_eq_true rfl) ⟨Nat.le_of_ble_eq_true rfl, Nat.le_of_ble_eq_true rfl⟩ (fun r3 => ?_)
      refine r_if_eq (pc := 54) C (tgt := 72) dX1_takeFactor_54 rfl (fun _ => ?_) (fun _ => ?_)
      · refine r_aload_n (pc := 72) C dX1_takeFactor_72 rfl rfl ?_
        refine r_ldcS (pc := 73) C 10 dX1_takeFactor_73 rfl ?_
        refine r_cVI (pc := 75) C [.ref ((x_D X).2.2.2.1 10)] [] (z_KX.zero hT) (s_X1_isWord a 10) mt_X1_isWord zc_1 dX1_takeFactor_75 ml_X1_72 im_X1_isWord se_X1_isWord rfl rfl rfl (Nat.le_of_ble_eq_true rfl) ⟨Nat.le_of_ble_eq_true rfl, Nat.le_of_ble_eq_true rfl⟩ (fun r4 => ?_)
        refine r_if_eq (pc := 78) C (tgt := 96) dX1_takeFactor_78 rfl (fun _ => ?_) (fun _ => ?_)
        · refine r_aload_n (pc := 96) C dX1_takeFactor_96 rfl rfl ?_
          refine r_ldcS (pc := 97) C 11 dX1_takeFactor_97 rfl ?_
          refine r_cVI (pc := 99) C [.ref ((x_D X).2.2.2.1 11)] [] (z_KX.zero hT) (s_X1_isWord a 11) mt_X1_isWord zc_1 dX1_takeFactor_99 ml_X1_72 im_X1_isWord se_X1_isWord rfl rfl rfl (Nat.le_of_ble_eq_true rfl) ⟨Nat.le_of_ble_eq_true rfl, Nat.le_of_ble_eq_true rfl⟩ (fun r5 => ?_)
          refine r_if_eq (pc := 102) C (tgt := 120) dX1_takeFactor_102 rfl (fun _ => ?_) (fun _ => ?_)
          · refine r_aload_n (pc := 120) C dX1_takeFactor_120 rfl rfl ?_
            refine r_iconst (pc := 121) C dX1_takeFactor_121 ki_1 ?_
            refine r_cVV (pc := 122) C [.int 1] [] (z_KX.zero hT) (s_X1_fail a 1) mt_X1_fail zc_1 dX1_takeFactor_122 ml_X1_109 im_X1_fail se_X1_fail rfl rfl rfl (Nat.le_of_ble_eq_true rfl) ⟨Nat.le_of_ble_eq_true rfl, Nat.le_of_ble_eq_true rfl⟩ ?_
            exact r_vret (pc := 125) C dX1_takeFactor_125
          · refine r_aload_n (pc := 105) C dX1_takeFactor_105 rfl rfl ?_
            refine r_getA (pc := 106) C dX1_takeFactor_106 fl_X1_29 rfl (fun v7 => ?_)
            refine r_getA (pc := 109) C dX1_takeFactor_109 fl_X1_159 rfl (fun v8 => ?_)
            refine r_bipush (pc := 112) C dX1_takeFactor_112 kb_m4 ?_
            refine r_cVV (pc := 114) C [.int (-4)] [] (z_KX.zero hT) (s_X2_add v8 (-4)) mt_X2_add zc_2 dX1_takeFactor_114 ml_X1_194 im_X2_add se_X2_add rfl rfl rfl (Nat.le_of_ble_eq_true rfl) ⟨Nat.le_of_ble_eq_true rfl, Nat.le_of_ble_eq_true rfl⟩ ?_
            refine r_goto (pc := 117) C (tgt := 125) dX1_takeFactor_117 rfl ?_
            exact r_vret (pc := 125) C dX1_takeFactor_125
        · refine r_aload_n (pc := 81) C dX1_takeFactor_81 rfl rfl ?_
          refine r_getA (pc := 82) C dX1_takeFactor_82 fl_X1_29 rfl (fun v10 => ?_)
          refine r_getA (pc := 85) C dX1_takeFactor_85 fl_X1_159 rfl (fun v11 => ?_)
          refine r_bipush (pc := 88) C dX1_takeFactor_88 kb_m3 ?_
          refine r_cVV (pc := 90) C [.int (-3)] [] (z_KX.zero hT) (s_X2_add v11 (-3)) mt_X2_add zc_2 dX1_takeFactor_90 ml_X1_194 im_X2_add se_X2_add rfl rfl rfl (Nat.le_of_ble_eq_true rfl) ⟨Nat.le_of_ble_eq_true rfl, Nat.le_of_ble_eq_true rfl⟩ ?_
          refine r_goto (pc := 93) C (tgt := 125) dX1_takeFactor_93 rfl ?_
          exact r_vret (pc := 125) C dX1_takeFactor_125
      · refine r_aload_n (pc := 57) C dX1_takeFactor_57 rfl rfl ?_
        refine r_getA (pc := 58) C dX1_takeFactor_58 fl_X1_29 rfl (fun v13 => ?_)
        refine r_getA (pc := 61) C dX1_takeFactor_61 fl_X1_159 rfl (fun v14 => ?_)
        refine r_bipush (pc := 64) C dX1_takeFactor_64 kb_m2 ?_
        refine r_cVV (pc := 66) C [.int (-2)] [] (z_KX.zero hT) (s_X2_add v14 (-2)) mt_X2_add zc_2 dX1_takeFactor_66 ml_X1_194 im_X2_add se_X2_add rfl rfl rfl (Nat.le_of_ble_eq_true rfl) ⟨Nat.le_of_ble_eq_true rfl, Nat.le_of_ble_eq_true rfl⟩ ?_
        refine r_goto (pc := 69) C (tgt := 125) dX1_takeFactor_69 rfl ?_
        exact r_vret (pc := 125) C dX1_takeFactor_125
    · refine r_aload_n (pc := 34) C dX1_takeFactor_34 rfl rfl ?_
      refine r_getA (pc := 35) C dX1_takeFactor_35 fl_X1_29 rfl (fun v16 => ?_)
      refine r_getA (pc := 38) C dX1_takeFactor_38 fl_X1_159 rfl (fun v17 => ?_)
      refine r_iconst (pc := 41) C dX1_takeFactor_41 ki_m1 ?_
      refine r_cVV (pc := 42) C [.int (-1)] [] (z_KX.zero hT) (s_X2_add v17 (-1)) mt_X2_add zc_2 dX1_takeFactor_42 ml_X1_194 im_X2_add se_X2_add rfl rfl rfl (Nat.le_of_ble_eq_true rfl) ⟨Nat.le_of_ble_eq_true rfl, Nat.le_of_ble_eq_true rfl⟩ ?_
      refine r_goto (pc := 45) C (tgt := 125) dX1_takeFactor_45 rfl ?_
      exact r_vret (pc := 125) C dX1_takeFactor_125
noncomputable def p_X1_operatorOfToken (a : Nat) : zP Int32 := (z_bd (z_gI 1 a 7) (fun v1 => (if v1 = 3 then (z_bd (z_gI 1 a 8) (fun v2 => (if v2 = 42 then (z_pu (-7)) else (if v2 = 43 then (z_pu (-5)) else (if v2 = 44 then (z_pu 0) else (if v2 = 45 then (z_pu (-6)) else (if v2 = 46 then (z_pu 0) else (if v2 = 47 then (z_pu (-8)) else (z_pu 0))))))))) else (z_pu 0))))
set_option maxHeartbeats 4000000 in
set_option maxRecDepth 100000 in
theorem s_X1_operatorOfToken (a : Nat) : z_Sound yX1_operatorOfToken cX1_operatorOfToken 1 (some .int) 1 20 (fun D b => [.ref (b + a)]) z_ivI (p_X1_operatorOfToken a) := by
  refine z_ofSim rfl (by intro D b; exact Nat.le_of_ble_eq_true rfl) (fun X C hT => ?_)
  unfold p_X1_operatorOfToken
  refine r_sub [(0, .ref (x_b X + a))] rfl ?_
  refine r_aload_n (pc := 0) C dX1_operatorOfToken_0 rfl rfl ?_
  refine r_getI (pc := 1) C dX1_operatorOfToken_1 fl_X1_60 rfl (fun v1 => ?_)
  refine r_iconst (pc := 4) C dX1_operatorOfToken_4 ki_3 ?_
  refine r_icmp_eq (pc := 5) C (tgt := 10) dX1_operatorOfToken_5 rfl (fun _ => ?_) (fun _ => ?_)
  · refine r_aload_n (pc := 10) C dX1_operatorOfToken_10 rfl rfl ?_
    refine r_getI (pc := 11) C dX1_operatorOfToken_11 fl_X1_191 rfl (fun v2 => ?_)
    refine r_ite (fun h14_0 => ?_) (fun h14_0 => ?_)
    · refine r_tin (pc := 14) C (k := 42) (off := 44) (tgt := 58) dX1_operatorOfToken_14 h14_0 (by decide) rfl ?_
      refine r_bipush (pc := 58) C dX1_operatorOfToken_58 kb_m7 ?_
      exact r_iret (pc := 60) C dX1_operatorOfToken_60
    · refine r_ite (fun h14_1 => ?_) (fun h14_1 => ?_)
      · refine r_tin (pc := 14) C (k := 43) (off := 38) (tgt := 52) dX1_operatorOfToken_14 h14_1 (by decide) rfl ?_
        refine r_bipush (pc := 52) C dX1_operatorOfToken_52 kb_m5 ?_
        exact r_iret (pc := 54) C dX1_operatorOfToken_54
      · refine r_ite (fun h14_2 => ?_) (fun h14_2 => ?_)
        · refine r_tin (pc := 14) C (k := 44) (off := 50) (tgt := 64) dX1_operatorOfToken_14 h14_2 (by decide) rfl ?_
          refine r_iconst (pc := 64) C dX1_operatorOfToken_64 ki_0 ?_
          exact r_iret (pc := 65) C dX1_operatorOfToken_65
        · refine r_ite (fun h14_3 => ?_) (fun h14_3 => ?_)
          · refine r_tin (pc := 14) C (k := 45) (off := 41) (tgt := 55) dX1_operatorOfToken_14 h14_3 (by decide) rfl ?_
            refine r_bipush (pc := 55) C dX1_operatorOfToken_55 kb_m6 ?_
            exact r_iret (pc := 57) C dX1_operatorOfToken_57
          · refine r_ite (fun h14_4 => ?_) (fun h14_4 => ?_)
            · refine r_tin (pc := 14) C (k := 46) (off := 50) (tgt := 64) dX1_operatorOfToken_14 h14_4 (by decide) rfl ?_
              refine r_iconst (pc := 64) C dX1_operatorOfToken_64 ki_0 ?_
              exact r_iret (pc := 65) C dX1_operatorOfToken_65
            · refine r_ite (fun h14_5 => ?_) (fun h14_5 => ?_)
              · refine r_tin (pc := 14) C (k := 47) (off := 47) (tgt := 61) dX1_operatorOfToken_14 h14_5 (by decide) rfl ?_
                refine r_bipush (pc := 61) C dX1_operatorOfToken_61 kb_m8 ?_
                exact r_iret (pc := 63) C dX1_operatorOfToken_63
              · refine r_tout (pc := 14) C (tgt := 64) dX1_operatorOfToken_14 (by have q0 := lv_neT h14_0 (a := 42) (by decide); have q1 := lv_neT h14_1 (a := 43) (by decide); have q2 := lv_neT h14_2 (a := 44) (by decide); have q3 := lv_neT h14_3 (a := 45) (by decide); have q4 := lv_neT h14_4 (a := 46) (by decide); have q5 := lv_neT h14_5 (a := 47) (by decide); omega) rfl ?_
                refine r_iconst (pc := 64) C dX1_operatorOfToken_64 ki_0 ?_
                exact r_iret (pc := 65) C dX1_operatorOfToken_65
  · refine r_iconst (pc := 8) C dX1_operatorOfToken_8 ki_0 ?_
    exact r_iret (pc := 9) C dX1_operatorOfToken_9
noncomputable def p_X1_rank (p1 : Int32) : zP Int32 := (if p1 = 0 then (z_pu 0) else (if p1 = (-5) then (z_pu 1) else (if p1 = (-6) then (z_pu 1) else (z_pu 2))))
set_option maxHeartbeats 4000000 in
set_option maxRecDepth 100000 in
theorem s_X1_rank (p1 : Int32) : z_Sound yX1_rank cX1_rank 1 (some .int) 1 20 (fun D b => [.int p1]) z_ivI (p_X1_rank p1) := by
  refine z_ofSim rfl (by intro D b; exact Nat.le_of_ble_eq_true rfl) (fun X C hT => ?_)
  unfold p_X1_rank
  refine r_sub [(0, .int p1)] rfl ?_
  refine r_iload_n (pc := 0) C dX1_rank_0 rfl rfl ?_
  refine r_if_ne (pc := 1) C (tgt := 6) dX1_rank_1 rfl (fun _ => ?_) (fun _ => ?_)
  · refine r_iconst (pc := 4) C dX1_rank_4 ki_0 ?_
    exact r_iret (pc := 5) C dX1_rank_5
  · refine r_iload_n (pc := 6) C dX1_rank_6 rfl rfl ?_
    refine r_bipush (pc := 7) C dX1_rank_7 kb_m5 ?_
    refine r_icmp_eq (pc := 9) C (tgt := 18) dX1_rank_9 rfl (fun _ => ?_) (fun _ => ?_)
    · refine r_iconst (pc := 18) C dX1_rank_18 ki_1 ?_
      refine r_goto (pc := 19) C (tgt := 23) dX1_rank_19 rfl ?_
      exact r_iret (pc := 23) C dX1_rank_23
    · refine r_iload_n (pc := 12) C dX1_rank_12 rfl rfl ?_
      refine r_bipush (pc := 13) C dX1_rank_13 kb_m6 ?_
      refine r_icmp_ne (pc := 15) C (tgt := 22) dX1_rank_15 rfl (fun _ => ?_) (fun _ => ?_)
      · refine r_iconst (pc := 18) C dX1_rank_18 ki_1 ?_
        refine r_goto (pc := 19) C (tgt := 23) dX1_rank_19 rfl ?_
        exact r_iret (pc := 23) C dX1_rank_23
      · refine r_iconst (pc := 22) C dX1_rank_22 ki_2 ?_
        exact r_iret (pc := 23) C dX1_rank_23
noncomputable def p_X1_releaseOperators (a : Nat) (p1 : Int32) : zP Unit := (z_lp (fun (t1 : Unit) => (z_bd (z_gI 1 a 1) (fun v2 => (if v2 ≤ 0 then (z_pu (.inr ())) else (z_bd (z_gA 1 a 0) (fun v3 => (z_bd (z_gI 1 a 1) (fun v4 => (z_bd (z_aI 11 v3 (v4 - 1)) (fun v5 => (z_bd (p_X1_rank v5) (fun r6 => (if r6 < p1 then (z_pu (.inr ())) else (z_bd (z_gA 1 a 3) (fun v7 => (z_bd (z_gA 0 v7 9) (fun v8 => (z_bd (z_gA 1 a 0) (fun v9 => (z_bd (z_gI 1 a 1) (fun v10 => (z_bd (z_aI 11 v9 (v10 - 1)) (fun v11 => (z_bd (z_cv 2 v8 (p_X2_add v8 v11)) (fun _ => (z_bd (z_gI 1 a 1) (fun v13 => (z_bd (z_pI 1 a 1 (v13 - 1)) (fun _ => (z_pu (.inl ()))))))))))))))))))))))))))))))) ())
set_option maxHeartbeats 4000000 in
set_option maxRecDepth 100000 in
theorem s_X1_releaseOperators (a : Nat) (p1 : Int32) : z_Sound yX1_releaseOperators cX1_releaseOperators 2 none 2 41 (fun D b => [.ref (b + a), .int p1]) z_ivV (p_X1_releaseOperators a p1) := by
  refine z_ofSim rfl (by intro D b; exact Nat.le_of_ble_eq_true rfl) (fun X C hT => ?_)
  unfold p_X1_releaseOperators
  refine r_sub [(0, .ref (x_b X + a)), (1, .int p1)] rfl ?_
  refine r_sub [(0, .ref (x_b X + a)), (1, .int p1)] rfl ?_
  refine r_lp (pc := 0) (fun (t1 : Unit) => [(0, .ref (x_b X + a)), (1, .int p1)]) (fun t1 => ?_) ()
  refine r_aload_n (pc := 0) C dX1_releaseOperators_0 rfl rfl ?_
  refine r_getI (pc := 1) C dX1_releaseOperators_1 fl_X1_165 rfl (fun v2 => ?_)
  refine r_if_le (pc := 4) C (tgt := 59) dX1_releaseOperators_4 rfl (fun _ => ?_) (fun _ => ?_)
  · exact r_up (r_vret (pc := 59) C dX1_releaseOperators_59)
  · refine r_aload_n (pc := 7) C dX1_releaseOperators_7 rfl rfl ?_
    refine r_getA (pc := 8) C dX1_releaseOperators_8 fl_X1_9 rfl (fun v3 => ?_)
    refine r_aload_n (pc := 11) C dX1_releaseOperators_11 rfl rfl ?_
    refine r_getI (pc := 12) C dX1_releaseOperators_12 fl_X1_165 rfl (fun v4 => ?_)
    refine r_iconst (pc := 15) C dX1_releaseOperators_15 ki_1 ?_
    refine r_isub (pc := 16) C dX1_releaseOperators_16 ?_
    refine r_iald (pc := 17) C dX1_releaseOperators_17 (fun v5 => ?_)
    refine r_cSI (pc := 18) C [.int v5] [] (z_KX.up (z_KX.zero hT)) (s_X1_rank v5) mt_X1_rank dX1_releaseOperators_18 ml_X1_205 sm_X1_rank rfl rfl rfl (Nat.le_of_ble_eq_true rfl) ⟨Nat.le_of_ble_eq_true rfl, Nat.le_of_ble_eq_true rfl⟩ (fun r6 => ?_)
    refine r_iload_n (pc := 21) C dX1_releaseOperators_21 rfl rfl ?_
    refine r_icmp_lt (pc := 22) C (tgt := 59) dX1_releaseOperators_22 rfl (fun _ => ?_) (fun _ => ?_)
    · exact r_up (r_vret (pc := 59) C dX1_releaseOperators_59)
    · refine r_aload_n (pc := 25) C dX1_releaseOperators_25 rfl rfl ?_
      refine r_getA (pc := 26) C dX1_releaseOperators_26 fl_X1_29 rfl (fun v7 => ?_)
      refine r_getA (pc := 29) C dX1_releaseOperators_29 fl_X1_159 rfl (fun v8 => ?_)
      refine r_aload_n (pc := 32) C dX1_releaseOperators_32 rfl rfl ?_
      refine r_getA (pc := 33) C dX1_releaseOperators_33 fl_X1_9 rfl (fun v9 => ?_)
      refine r_aload_n (pc := 36) C dX1_releaseOperators_36 rfl rfl ?_
      refine r_getI (pc := 37) C dX1_releaseOperators_37 fl_X1_165 rfl (fun v10 => ?_)
      refine r_iconst (pc := 40) C dX1_releaseOperators_40 ki_1 ?_
      refine r_isub (pc := 41) C dX1_releaseOperators_41 ?_
      refine r_iald (pc := 42) C dX1_releaseOperators_42 (fun v11 => ?_)
      refine r_cVV (pc := 43) C [.int v11] [] (z_KX.up (z_KX.zero hT)) (s_X2_add v8 v11) mt_X2_add zc_2 dX1_releaseOperators_43 ml_X1_194 im_X2_add se_X2_add rfl rfl rfl (Nat.le_of_ble_eq_true rfl) ⟨Nat.le_of_ble_eq_true rfl, Nat.le_of_ble_eq_true rfl⟩ ?_
      refine r_aload_n (pc := 46) C dX1_releaseOperators_46 rfl rfl ?_
      refine r_dup (pc := 47) C dX1_releaseOperators_47 rfl ?_
      refine r_getI (pc := 48) C dX1_releaseOperators_48 fl_X1_165 rfl (fun v13 => ?_)
      refine r_iconst (pc := 51) C dX1_releaseOperators_51 ki_1 ?_
      refine r_isub (pc := 52) C dX1_releaseOperators_52 ?_
      refine r_putI (pc := 53) C dX1_releaseOperators_53 fl_X1_165 rfl rfl ?_
      refine r_goto (pc := 56) C (tgt := 0) dX1_releaseOperators_56 rfl ?_
      refine r_sub [(0, .ref (x_b X + a)), (1, .int p1)] rfl ?_
      exact r_br (τ := Unit) ()
noncomputable def p_X1_takeOperator (a : Nat) (p1 : Int32) : zP Unit := (z_bd (p_X1_rank p1) (fun r1 => (z_bd (z_cv 1 a (p_X1_releaseOperators a r1)) (fun _ => (z_bd (z_cv 1 a (p_X1_holdOperator a p1)) (fun _ => (z_pu ())))))))
set_option maxHeartbeats 4000000 in
set_option maxRecDepth 100000 in
theorem s_X1_takeOperator (a : Nat) (p1 : Int32) : z_Sound yX1_takeOperator cX1_takeOperator 2 none 3 62 (fun D b => [.ref (b + a), .int p1]) z_ivV (p_X1_takeOperator a p1) := by
  refine z_ofSim rfl (by intro D b; exact Nat.le_of_ble_eq_true rfl) (fun X C hT => ?_)
  unfold p_X1_takeOperator
  refine r_sub [(0, .ref (x_b X + a)), (1, .int p1)] rfl ?_
  refine r_aload_n (pc := 0) C dX1_takeOperator_0 rfl rfl ?_
  refine r_iload_n (pc := 1) C dX1_takeOperator_1 rfl rfl ?_
  refine r_cSI (pc := 2) C [.int p1] [.ref (x_b X + a)] (z_KX.zero hT) (s_X1_rank p1) mt_X1_rank dX1_takeOperator_2 ml_X1_205 sm_X1_rank rfl rfl rfl (Nat.le_of_ble_eq_true rfl) ⟨Nat.le_of_ble_eq_true rfl, Nat.le_of_ble_eq_true rfl⟩ (fun r1 => ?_)
  refine r_cVV (pc := 5) C [.int r1] [] (z_KX.zero hT) (s_X1_releaseOperators a r1) mt_X1_releaseOperators zc_1 dX1_takeOperator_5 ml_X1_188 im_X1_releaseOperators se_X1_releaseOperators rfl rfl rfl (Nat.le_of_ble_eq_true rfl) ⟨Nat.le_of_ble_eq_true rfl, Nat.le_of_ble_eq_true rfl⟩ ?_
  refine r_aload_n (pc := 8) C dX1_takeOperator_8 rfl rfl ?_
  refine r_iload_n (pc := 9) C dX1_takeOperator_9 rfl rfl ?_
  refine r_cVV (pc := 10) C [.int p1] [] (z_KX.zero hT) (s_X1_holdOperator a p1) mt_X1_holdOperator zc_1 dX1_takeOperator_10 ml_X1_172 im_X1_holdOperator se_X1_holdOperator rfl rfl rfl (Nat.le_of_ble_eq_true rfl) ⟨Nat.le_of_ble_eq_true rfl, Nat.le_of_ble_eq_true rfl⟩ ?_
  exact r_vret (pc := 13) C dX1_takeOperator_13
noncomputable def p_X1_closeParenthesis (a : Nat) : zP Unit := (z_bd (z_cv 1 a (p_X1_releaseOperators a 1)) (fun _ => (z_bd (z_gI 1 a 1) (fun v2 => (if v2 ≤ 0 then (z_pu ()) else (z_bd (z_gI 1 a 1) (fun v3 => (z_bd (z_pI 1 a 1 (v3 - 1)) (fun _ => (z_pu ()))))))))))
set_option maxHeartbeats 4000000 in
set_option maxRecDepth 100000 in
theorem s_X1_closeParenthesis (a : Nat) : z_Sound yX1_closeParenthesis cX1_closeParenthesis 1 none 3 62 (fun D b => [.ref (b + a)]) z_ivV (p_X1_closeParenthesis a) := by
  refine z_ofSim rfl (by intro D b; exact Nat.le_of_ble_eq_true rfl) (fun X C hT => ?_)
  unfold p_X1_closeParenthesis
  refine r_sub [(0, .ref (x_b X + a))] rfl ?_
  refine r_aload_n (pc := 0) C dX1_closeParenthesis_0 rfl rfl ?_
  refine r_iconst (pc := 1) C dX1_closeParenthesis_1 ki_1 ?_
  refine r_cVV (pc := 2) C [.int 1] [] (z_KX.zero hT) (s_X1_releaseOperators a 1) mt_X1_releaseOperators zc_1 dX1_closeParenthesis_2 ml_X1_188 im_X1_releaseOperators se_X1_releaseOperators rfl rfl rfl (Nat.le_of_ble_eq_true rfl) ⟨Nat.le_of_ble_eq_true rfl, Nat.le_of_ble_eq_true rfl⟩ ?_
  refine r_aload_n (pc := 5) C dX1_closeParenthesis_5 rfl rfl ?_
  refine r_getI (pc := 6) C dX1_closeParenthesis_6 fl_X1_165 rfl (fun v2 => ?_)
  refine r_if_le (pc := 9) C (tgt := 22) dX1_closeParenthesis_9 rfl (fun _ => ?_) (fun _ => ?_)
  · exact r_vret (pc := 22) C dX1_closeParenthesis_22
  · refine r_aload_n (pc := 12) C dX1_closeParenthesis_12 rfl rfl ?_
    refine r_dup (pc := 13) C dX1_closeParenthesis_13 rfl ?_
    refine r_getI (pc := 14) C dX1_closeParenthesis_14 fl_X1_165 rfl (fun v3 => ?_)
    refine r_iconst (pc := 17) C dX1_closeParenthesis_17 ki_1 ?_
    refine r_isub (pc := 18) C dX1_closeParenthesis_18 ?_
    refine r_putI (pc := 19) C dX1_closeParenthesis_19 fl_X1_165 rfl rfl ?_
    exact r_vret (pc := 22) C dX1_closeParenthesis_22
