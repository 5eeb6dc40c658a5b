noncomputable def p_X1_readFare (a : Nat) : zP Unit := (z_bd (z_gI 1 a 13) (fun v1 => (z_bd (z_cv 1 a (p_X1_takeSingleWord a v1)) (fun _ => (z_bd (z_pZ 1 a 13 1) (fun _ => (z_bd (z_gA 1 a 3) (fun v3 => (z_bd (z_gA 0 v3 9) (fun v4 => (z_bd (z_cv 2 v4 (p_X2_clear v4)) (fun _ => (z_bd (z_pI 1 a 1 0) (fun _ => (z_bd (z_gI 1 a 4) (fun v6 => (z_jn (τ := Int32 × Int32) (z_lp (fun (t8 : Int32 × Int32 × Int32) => (if t8.2.2 ≤ 0 then (z_pu (.inr (.inl (t8.1, t8.2.1)))) else (z_bd (z_gI 1 a 9) (fun v9 => (if v9 = 0 then (z_jn (τ := Int32 × Int32) (z_jn (τ := Unit) (if t8.2.1 = 0 then (z_pu (.inl ())) else (z_bd (z_cv 1 a (p_X1_isSign a 40)) (fun r12 => (if r12 = 0 then (z_pu (.inl ())) else (z_jn (τ := Unit) (if t8.1 < 5 then (z_pu (.inl ())) else (z_bd (z_cv 1 a (p_X1_fail a 4)) (fun _ => (z_pu (.inl ()))))) (fun t13 => (z_bd (z_cv 1 a (p_X1_holdOperator a 0)) (fun _ => (z_pu (.inr (.inl ((t8.1 + 1), t8.2.1)))))))))))) (fun t11 => (if t8.2.1 = 0 then (z_bd (z_cv 1 a (p_X1_operatorOfToken a)) (fun r16 => (if r16 = 0 then (if t8.1 ≤ 0 then (z_pu (.inr (.inr (.inl (t8.1, t8.2.1))))) else (z_bd (z_cv 1 a (p_X1_isSign a 41)) (fun r17 => (if r17 = 0 then (z_pu (.inr (.inr (.inl (t8.1, t8.2.1))))) else (z_bd (z_cv 1 a (p_X1_closeParenthesis a)) (fun _ => (z_bd (z_pu (t8.1 + (-1))) (fun x19 => (z_pu (.inl (x19, t8.2.1))))))))))) else (z_bd (z_cv 1 a (p_X1_operatorOfToken a)) (fun r20 => (z_bd (z_cv 1 a (p_X1_takeOperator a r20)) (fun _ => (z_pu (.inl (t8.1, 1)))))))))) else (z_bd (z_cv 1 a (p_X1_takeFactor a)) (fun _ => (z_pu (.inl (t8.1, 0)))))))) (fun t10 => (z_bd (z_cv 1 a (p_X1_nextToken a)) (fun _ => (z_bd (z_pu (t8.2.2 + (-1))) (fun x24 => (z_pu (.inl (t10.1, t10.2, x24))))))))) else (z_pu (.inr (.inl (t8.1, t8.2.1))))))))) (0, 1, v6)) (fun t7 => (z_jn (τ := Unit) (z_jn (τ := Unit) (if 0 < t7.1 then (z_pu (.inl ())) else (if t7.2 = 0 then (z_pu (.inr (.inl ()))) else (z_pu (.inl ())))) (fun t26 => (z_bd (z_cv 1 a (p_X1_fail a 1)) (fun _ => (z_pu (.inl ())))))) (fun t25 => (z_bd (z_cv 1 a (p_X1_releaseOperators a 1)) (fun _ => (z_pu ())))))))))))))))))))))))
set_option maxHeartbeats 4000000 in
set_option maxRecDepth 100000 in
theorem s_X1_readFare (a : Nat) : z_Sound yX1_readFare cX1_readFare 4 none 10 242 (fun D b => [.ref (b + a)]) z_ivV (p_X1_readFare a) := by
  refine z_ofSim rfl (by intro D b; exact Nat.le_of_ble_eq_true rfl) (fun X C hT => ?_)
  unfold p_X1_readFare
  refine r_sub [(0, .ref (x_b X + a))] rfl ?_
  refine r_aload_n (pc := 0) C dX1_readFare_0 rfl rfl ?_
  refine r_aload_n (pc := 1) C dX1_readFare_1 rfl rfl ?_
  refine r_getI (pc := 2) C dX1_readFare_2 fl_X1_54 rfl (fun v1 => ?_)
  refine r_cVV (pc := 5) C [.int v1] [] (z_KX.zero hT) (s_X1_takeSingleWord a v1) mt_X1_takeSingleWord zc_1 dX1_readFare_5 ml_X1_140 im_X1_takeSingleWord se_X1_takeSingleWord rfl rfl rfl (Nat.le_of_ble_eq_true rfl) ⟨Nat.le_of_ble_eq_true rfl, Nat.le_of_ble_eq_true rfl⟩ ?_
  refine r_aload_n (pc := 8) C dX1_readFare_8 rfl rfl ?_
  refine r_iconst (pc := 9) C dX1_readFare_9 ki_1 ?_
  refine r_putZ (pc := 10) C dX1_readFare_10 fl_X1_54 rfl rfl ?_
  refine r_aload_n (pc := 13) C dX1_readFare_13 rfl rfl ?_
  refine r_getA (pc := 14) C dX1_readFare_14 fl_X1_29 rfl (fun v3 => ?_)
  refine r_getA (pc := 17) C dX1_readFare_17 fl_X1_159 rfl (fun v4 => ?_)
  refine r_cVV (pc := 20) C [] [] (z_KX.zero hT) (s_X2_clear v4) mt_X2_clear zc_2 dX1_readFare_20 ml_X1_162 im_X2_clear se_X2_clear rfl rfl rfl (Nat.le_of_ble_eq_true rfl) ⟨Nat.le_of_ble_eq_true rfl, Nat.le_of_ble_eq_true rfl⟩ ?_
  refine r_aload_n (pc := 23) C dX1_readFare_23 rfl rfl ?_
  refine r_iconst (pc := 24) C dX1_readFare_24 ki_0 ?_
  refine r_putI (pc := 25) C dX1_readFare_25 fl_X1_165 rfl rfl ?_
  refine r_iconst (pc := 28) C dX1_readFare_28 ki_0 ?_
  refine r_sti_n (pc := 29) C 1 [(0, .ref (x_b X + a)), (1, .int 0)] dX1_readFare_29 rfl (by decide) rfl ?_
  refine r_iconst (pc := 30) C dX1_readFare_30 ki_1 ?_
  refine r_sti_n (pc := 31) C 2 [(0, .ref (x_b X + a)), (1, .int 0), (2, .int 1)] dX1_readFare_31 rfl (by decide) rfl ?_
  refine r_aload_n (pc := 32) C dX1_readFare_32 rfl rfl ?_
  refine r_getI (pc := 33) C dX1_readFare_33 fl_X1_25 rfl (fun v6 => ?_)
  refine r_sti_n (pc := 36) C 3 [(0, .ref (x_b X + a)), (1, .int 0), (2, .int 1), (3, .int v6)] dX1_readFare_36 rfl (by decide) rfl ?_
  refine r_jn 145 (fun (t7 : Int32 × Int32) => [(0, .ref (x_b X + a)), (1, .int t7.1), (2, .int t7.2)]) (fun (t7 : Int32 × Int32) => []) (fun t7 => ?_) ?_
  · refine r_iload_n (pc := 145) C dX1_readFare_145 rfl rfl ?_
    refine r_jn 158 (fun (t25 : Unit) => [(0, .ref (x_b X + a))]) (fun (t25 : Unit) => []) (fun t25 => ?_) ?_
    · refine r_aload_n (pc := 158) C dX1_readFare_158 rfl rfl ?_
      refine r_iconst (pc := 159) C dX1_readFare_159 ki_1 ?_
      refine r_cVV (pc := 160) C [.int 1] [] (z_KX.zero hT) (s_X1_releaseOperators a 1) mt_X1_releaseOperators zc_1 dX1_readFare_160 ml_X1_188 im_X1_releaseOperators se_X1_releaseOperators rfl rfl rfl (Nat.le_of_ble_eq_true rfl) ⟨Nat.le_of_ble_eq_true rfl, Nat.le_of_ble_eq_true rfl⟩ ?_
      exact r_vret (pc := 163) C dX1_readFare_163
    · refine r_jn 153 (fun (t26 : Unit) => [(0, .ref (x_b X + a))]) (fun (t26 : Unit) => []) (fun t26 => ?_) ?_
      · refine r_aload_n (pc := 153) C dX1_readFare_153 rfl rfl ?_
        refine r_iconst (pc := 154) C dX1_readFare_154 ki_1 ?_
        refine r_cVV (pc := 155) C [.int 1] [] (z_KX.up (z_KX.zero hT)) (s_X1_fail a 1) mt_X1_fail zc_1 dX1_readFare_155 ml_X1_109 im_X1_fail se_X1_fail rfl rfl rfl (Nat.le_of_ble_eq_true rfl) ⟨Nat.le_of_ble_eq_true rfl, Nat.le_of_ble_eq_true rfl⟩ ?_
        refine r_sub [(0, .ref (x_b X + a))] rfl ?_
        exact r_br (τ := Unit) ()
      · refine r_if_gt (pc := 146) C (tgt := 153) dX1_readFare_146 rfl (fun _ => ?_) (fun _ => ?_)
        · refine r_sub [(0, .ref (x_b X + a))] rfl ?_
          exact r_br (τ := Unit) ()
        · refine r_iload_n (pc := 149) C dX1_readFare_149 rfl rfl ?_
          refine r_if_eq (pc := 150) C (tgt := 158) dX1_readFare_150 rfl (fun _ => ?_) (fun _ => ?_)
          · refine r_sub [(0, .ref (x_b X + a))] rfl ?_
            exact r_up (r_br (τ := Unit) ())
          · refine r_sub [(0, .ref (x_b X + a))] rfl ?_
            exact r_br (τ := Unit) ()
  · refine r_sub [(0, .ref (x_b X + a)), (1, .int 0), (2, .int 1), (3, .int v6)] rfl ?_
    refine r_lp (pc := 37) (fun (t8 : Int32 × Int32 × Int32) => [(0, .ref (x_b X + a)), (1, .int t8.1), (2, .int t8.2.1), (3, .int t8.2.2)]) (fun t8 => ?_) (0, 1, v6)
    refine r_iload_n (pc := 37) C dX1_readFare_37 rfl rfl ?_
    refine r_if_le (pc := 38) C (tgt := 145) dX1_readFare_38 rfl (fun _ => ?_) (fun _ => ?_)
    · refine r_sub [(0, .ref (x_b X + a)), (1, .int t8.1), (2, .int t8.2.1)] rfl ?_
      exact r_up (r_br (τ := Int32 × Int32) (t8.1, t8.2.1))
    · refine r_aload_n (pc := 41) C dX1_readFare_41 rfl rfl ?_
      refine r_getI (pc := 42) C dX1_readFare_42 fl_X1_41 rfl (fun v9 => ?_)
      refine r_if_ne (pc := 45) C (tgt := 145) dX1_readFare_45 rfl (fun _ => ?_) (fun _ => ?_)
      · refine r_iload_n (pc := 48) C dX1_readFare_48 rfl rfl ?_
        refine r_jn 135 (fun (t10 : Int32 × Int32) => [(0, .ref (x_b X + a)), (1, .int t10.1), (2, .int t10.2), (3, .int t8.2.2)]) (fun (t10 : Int32 × Int32) => []) (fun t10 => ?_) ?_
        · refine r_aload_n (pc := 135) C dX1_readFare_135 rfl rfl ?_
          refine r_cVV (pc := 136) C [] [] (z_KX.up (z_KX.up (z_KX.zero hT))) (s_X1_nextToken a) mt_X1_nextToken zc_1 dX1_readFare_136 ml_X1_57 im_X1_nextToken se_X1_nextToken rfl rfl rfl (Nat.le_of_ble_eq_true rfl) ⟨Nat.le_of_ble_eq_true rfl, Nat.le_of_ble_eq_true rfl⟩ ?_
          refine r_inc (pc := 139) C (-1) [(0, .ref (x_b X + a)), (1, .int t10.1), (2, .int t10.2), (3, .int (t8.2.2 + (-1)))] dX1_readFare_139 rfl ki_m1 (by decide) rfl ?_
          refine r_goto (pc := 142) C (tgt := 37) dX1_readFare_142 rfl ?_
          refine r_sub [(0, .ref (x_b X + a)), (1, .int t10.1), (2, .int t10.2), (3, .int (t8.2.2 + (-1)))] rfl ?_
          refine r_let (t8.2.2 + (-1)) (fun x24 => [(0, .ref (x_b X + a)), (1, .int t10.1), (2, .int t10.2), (3, .int x24)]) (fun x24 => []) (fun x24 => ?_)
          exact r_br (τ := Int32 × Int32 × Int32) (t10.1, t10.2, x24)
        · refine r_jn 82 (fun (t11 : Unit) => [(0, .ref (x_b X + a)), (1, .int t8.1), (2, .int t8.2.1), (3, .int t8.2.2)]) (fun (t11 : Unit) => []) (fun t11 => ?_) ?_
          · refine r_iload_n (pc := 82) C dX1_readFare_82 rfl rfl ?_
            refine r_if_eq (pc := 83) C (tgt := 95) dX1_readFare_83 rfl (fun _ => ?_) (fun _ => ?_)
            · refine r_aload_n (pc := 95) C dX1_readFare_95 rfl rfl ?_
              refine r_cVI (pc := 96) C [] [] (z_KX.up (z_KX.up (z_KX.up (z_KX.zero hT)))) (s_X1_operatorOfToken a) mt_X1_operatorOfToken zc_1 dX1_readFare_96 ml_X1_178 im_X1_operatorOfToken se_X1_operatorOfToken rfl rfl rfl (Nat.le_of_ble_eq_true rfl) ⟨Nat.le_of_ble_eq_true rfl, Nat.le_of_ble_eq_true rfl⟩ (fun r16 => ?_)
              refine r_if_eq (pc := 99) C (tgt := 115) dX1_readFare_99 rfl (fun _ => ?_) (fun _ => ?_)
              · refine r_iload_n (pc := 115) C dX1_readFare_115 rfl rfl ?_
                refine r_if_le (pc := 116) C (tgt := 145) dX1_readFare_116 rfl (fun _ => ?_) (fun _ => ?_)
                · refine r_sub [(0, .ref (x_b X + a)), (1, .int t8.1), (2, .int t8.2.1)] rfl ?_
                  exact r_up (r_up (r_br (τ := Int32 × Int32) (t8.1, t8.2.1)))
                · refine r_aload_n (pc := 119) C dX1_readFare_119 rfl rfl ?_
                  refine r_bipush (pc := 120) C dX1_readFare_120 kb_41 ?_
                  refine r_cVI (pc := 122) C [.int 41] [] (z_KX.up (z_KX.up (z_KX.up (z_KX.zero hT)))) (s_X1_isSign a 41) mt_X1_isSign zc_1 dX1_readFare_122 ml_X1_168 im_X1_isSign se_X1_isSign rfl rfl rfl (Nat.le_of_ble_eq_true rfl) ⟨Nat.le_of_ble_eq_true rfl, Nat.le_of_ble_eq_true rfl⟩ (fun r17 => ?_)
                  refine r_if_eq (pc := 125) C (tgt := 145) dX1_readFare_125 rfl (fun _ => ?_) (fun _ => ?_)
                  · refine r_sub [(0, .ref (x_b X + a)), (1, .int t8.1), (2, .int t8.2.1)] rfl ?_
                    exact r_up (r_up (r_br (τ := Int32 × Int32) (t8.1, t8.2.1)))
                  · refine r_inc (pc := 128) C (-1) [(0, .ref (x_b X + a)), (1, .int (t8.1 + (-1))), (2, .int t8.2.1), (3, .int t8.2.2)] dX1_readFare_128 rfl ki_m1 (by decide) rfl ?_
                    refine r_aload_n (pc := 131) C dX1_readFare_131 rfl rfl ?_
                    refine r_cVV (pc := 132) C [] [] (z_KX.up (z_KX.up (z_KX.up (z_KX.zero hT)))) (s_X1_closeParenthesis a) mt_X1_closeParenthesis zc_1 dX1_readFare_132 ml_X1_185 im_X1_closeParenthesis se_X1_closeParenthesis rfl rfl rfl (Nat.le_of_ble_eq_true rfl) ⟨Nat.le_of_ble_eq_true rfl, Nat.le_of_ble_eq_true rfl⟩ ?_
                    refine r_sub [(0, .ref (x_b X + a)), (1, .int (t8.1 + (-1))), (2, .int t8.2.1), (3, .int t8.2.2)] rfl ?_
                    refine r_let (t8.1 + (-1)) (fun x19 => [(0, .ref (x_b X + a)), (1, .int x19), (2, .int t8.2.1), (3, .int t8.2.2)]) (fun x19 => []) (fun x19 => ?_)
                    exact r_br (τ := Int32 × Int32) (x19, t8.2.1)
              · refine r_aload_n (pc := 102) C dX1_readFare_102 rfl rfl ?_
                refine r_aload_n (pc := 103) C dX1_readFare_103 rfl rfl ?_
                refine r_cVI (pc := 104) C [] [.ref (x_b X + a)] (z_KX.up (z_KX.up (z_KX.up (z_KX.zero hT)))) (s_X1_operatorOfToken a) mt_X1_operatorOfToken zc_1 dX1_readFare_104 ml_X1_178 im_X1_operatorOfToken se_X1_operatorOfToken rfl rfl rfl (Nat.le_of_ble_eq_true rfl) ⟨Nat.le_of_ble_eq_true rfl, Nat.le_of_ble_eq_true rfl⟩ (fun r20 => ?_)
                refine r_cVV (pc := 107) C [.int r20] [] (z_KX.up (z_KX.up (z_KX.up (z_KX.zero hT)))) (s_X1_takeOperator a r20) mt_X1_takeOperator zc_1 dX1_readFare_107 ml_X1_182 im_X1_takeOperator se_X1_takeOperator rfl rfl rfl (Nat.le_of_ble_eq_true rfl) ⟨Nat.le_of_ble_eq_true rfl, Nat.le_of_ble_eq_true rfl⟩ ?_
                refine r_iconst (pc := 110) C dX1_readFare_110 ki_1 ?_
                refine r_sti_n (pc := 111) C 2 [(0, .ref (x_b X + a)), (1, .int t8.1), (2, .int 1), (3, .int t8.2.2)] dX1_readFare_111 rfl (by decide) rfl ?_
                refine r_goto (pc := 112) C (tgt := 135) dX1_readFare_112 rfl ?_
                refine r_sub [(0, .ref (x_b X + a)), (1, .int t8.1), (2, .int 1), (3, .int t8.2.2)] rfl ?_
                exact r_br (τ := Int32 × Int32) (t8.1, 1)
            · refine r_aload_n (pc := 86) C dX1_readFare_86 rfl rfl ?_
              refine r_cVV (pc := 87) C [] [] (z_KX.up (z_KX.up (z_KX.up (z_KX.zero hT)))) (s_X1_takeFactor a) mt_X1_takeFactor zc_1 dX1_readFare_87 ml_X1_175 im_X1_takeFactor se_X1_takeFactor rfl rfl rfl (Nat.le_of_ble_eq_true rfl) ⟨Nat.le_of_ble_eq_true rfl, Nat.le_of_ble_eq_true rfl⟩ ?_
              refine r_iconst (pc := 90) C dX1_readFare_90 ki_0 ?_
              refine r_sti_n (pc := 91) C 2 [(0, .ref (x_b X + a)), (1, .int t8.1), (2, .int 0), (3, .int t8.2.2)] dX1_readFare_91 rfl (by decide) rfl ?_
              refine r_goto (pc := 92) C (tgt := 135) dX1_readFare_92 rfl ?_
              refine r_sub [(0, .ref (x_b X + a)), (1, .int t8.1), (2, .int 0), (3, .int t8.2.2)] rfl ?_
              exact r_br (τ := Int32 × Int32) (t8.1, 0)
          · refine r_if_eq (pc := 49) C (tgt := 82) dX1_readFare_49 rfl (fun _ => ?_) (fun _ => ?_)
            · refine r_sub [(0, .ref (x_b X + a)), (1, .int t8.1), (2, .int t8.2.1), (3, .int t8.2.2)] rfl ?_
              exact r_br (τ := Unit) ()
            · refine r_aload_n (pc := 52) C dX1_readFare_52 rfl rfl ?_
              refine r_bipush (pc := 53) C dX1_readFare_53 kb_40 ?_
              refine r_cVI (pc := 55) C [.int 40] [] (z_KX.up (z_KX.up (z_KX.up (z_KX.up (z_KX.zero hT))))) (s_X1_isSign a 40) mt_X1_isSign zc_1 dX1_readFare_55 ml_X1_168 im_X1_isSign se_X1_isSign rfl rfl rfl (Nat.le_of_ble_eq_true rfl) ⟨Nat.le_of_ble_eq_true rfl, Nat.le_of_ble_eq_true rfl⟩ (fun r12 => ?_)
              refine r_if_eq (pc := 58) C (tgt := 82) dX1_readFare_58 rfl (fun _ => ?_) (fun _ => ?_)
              · refine r_sub [(0, .ref (x_b X + a)), (1, .int t8.1), (2, .int t8.2.1), (3, .int t8.2.2)] rfl ?_
                exact r_br (τ := Unit) ()
              · refine r_iload_n (pc := 61) C dX1_readFare_61 rfl rfl ?_
                refine r_iconst (pc := 62) C dX1_readFare_62 ki_5 ?_
                refine r_jn 71 (fun (t13 : Unit) => [(0, .ref (x_b X + a)), (1, .int t8.1), (2, .int t8.2.1), (3, .int t8.2.2)]) (fun (t13 : Unit) => []) (fun t13 => ?_) ?_
                · refine r_inc (pc := 71) C 1 [(0, .ref (x_b X + a)), (1, .int (t8.1 + 1)), (2, .int t8.2.1), (3, .int t8.2.2)] dX1_readFare_71 rfl ki_1 (by decide) rfl ?_
                  refine r_aload_n (pc := 74) C dX1_readFare_74 rfl rfl ?_
                  refine r_iconst (pc := 75) C dX1_readFare_75 ki_0 ?_
                  refine r_cVV (pc := 76) C [.int 0] [] (z_KX.up (z_KX.up (z_KX.up (z_KX.up (z_KX.zero hT))))) (s_X1_holdOperator a 0) mt_X1_holdOperator zc_1 dX1_readFare_76 ml_X1_172 im_X1_holdOperator se_X1_holdOperator rfl rfl rfl (Nat.le_of_ble_eq_true rfl) ⟨Nat.le_of_ble_eq_true rfl, Nat.le_of_ble_eq_true rfl⟩ ?_
                  refine r_goto (pc := 79) C (tgt := 135) dX1_readFare_79 rfl ?_
                  refine r_sub [(0, .ref (x_b X + a)), (1, .int (t8.1 + 1)), (2, .int t8.2.1), (3, .int t8.2.2)] rfl ?_
                  exact r_up (r_br (τ := Int32 × Int32) ((t8.1 + 1), t8.2.1))
                · refine r_icmp_lt (pc := 63) C (tgt := 71) dX1_readFare_63 rfl (fun _ => ?_) (fun _ => ?_)
                  · refine r_sub [(0, .ref (x_b X + a)), (1, .int t8.1), (2, .int t8.2.1), (3, .int t8.2.2)] rfl ?_
                    exact r_br (τ := Unit) ()
                  · refine r_aload_n (pc := 66) C dX1_readFare_66 rfl rfl ?_
                    refine r_iconst (pc := 67) C dX1_readFare_67 ki_4 ?_
                    refine r_cVV (pc := 68) C [.int 4] [] (z_KX.up (z_KX.up (z_KX.up (z_KX.up (z_KX.up (z_KX.zero hT)))))) (s_X1_fail a 4) mt_X1_fail zc_1 dX1_readFare_68 ml_X1_109 im_X1_fail se_X1_fail rfl rfl rfl (Nat.le_of_ble_eq_true rfl) ⟨Nat.le_of_ble_eq_true rfl, Nat.le_of_ble_eq_true rfl⟩ ?_
                    refine r_sub [(0, .ref (x_b X + a)), (1, .int t8.1), (2, .int t8.2.1), (3, .int t8.2.2)] rfl ?_
                    exact r_br (τ := Unit) ()
      · refine r_sub [(0, .ref (x_b X + a)), (1, .int t8.1), (2, .int t8.2.1)] rfl ?_
        exact r_up (r_br (τ := Int32 × Int32) (t8.1, t8.2.1))
noncomputable def p_X1_readStatement (a : Nat) : zP Unit := (z_bd (z_cv 1 a (p_X1_isWord a 1)) (fun r1 => (if r1 = 0 then (z_bd (z_cv 1 a (p_X1_isWord a 2)) (fun r2 => (if r2 = 0 then (z_bd (z_cv 1 a (p_X1_isWord a 3)) (fun r3 => (if r3 = 0 then (z_bd (z_cv 1 a (p_X1_isWord a 4)) (fun r4 => (if r4 = 0 then (z_bd (z_cv 1 a (p_X1_isWord a 5)) (fun r5 => (if r5 = 0 then (z_bd (z_cv 1 a (p_X1_isWord a 6)) (fun r6 => (if r6 = 0 then (z_bd (z_cv 1 a (p_X1_isWord a 7)) (fun r7 => (if r7 = 0 then (z_bd (z_cv 1 a (p_X1_fail a 1)) (fun _ => (z_pu ()))) else (z_bd (z_cv 1 a (p_X1_readFare a)) (fun _ => (z_pu ())))))) else (z_bd (z_cv 1 a (p_X1_readBonus a)) (fun _ => (z_pu ())))))) else (z_bd (z_cv 1 a (p_X1_readBalance a)) (fun _ => (z_pu ())))))) else (z_bd (z_cv 1 a (p_X1_readPace a)) (fun _ => (z_pu ())))))) else (z_bd (z_cv 1 a (p_X1_readTrip a)) (fun _ => (z_pu ())))))) else (z_bd (z_cv 1 a (p_X1_readTruck a)) (fun _ => (z_pu ())))))) else (z_bd (z_cv 1 a (p_X1_readStation a)) (fun _ => (z_pu ()))))))
set_option maxHeartbeats 4000000 in
set_option maxRecDepth 100000 in
theorem s_X1_readStatement (a : Nat) : z_Sound yX1_readStatement cX1_readStatement 1 none 11 265 (fun D b => [.ref (b + a)]) z_ivV (p_X1_readStatement a) := by
  refine z_ofSim rfl (by intro D b; exact Nat.le_of_ble_eq_true rfl) (fun X C hT => ?_)
  unfold p_X1_readStatement
  refine r_sub [(0, .ref (x_b X + a))] rfl ?_
  refine r_aload_n (pc := 0) C dX1_readStatement_0 rfl rfl ?_
  refine r_ldcS (pc := 1) C 1 dX1_readStatement_1 rfl ?_
  refine r_cVI (pc := 3) C [.ref ((x_D X).2.2.2.1 1)] [] (z_KX.zero hT) (s_X1_isWord a 1) mt_X1_isWord zc_1 dX1_readStatement_3 ml_X1_72 im_X1_isWord se_X1_isWord rfl rfl rfl (Nat.le_of_ble_eq_true rfl) ⟨Nat.le_of_ble_eq_true rfl, Nat.le_of_ble_eq_true rfl⟩ (fun r1 => ?_)
  refine r_if_eq (pc := 6) C (tgt := 16) dX1_readStatement_6 rfl (fun _ => ?_) (fun _ => ?_)
  · refine r_aload_n (pc := 16) C dX1_readStatement_16 rfl rfl ?_
    refine r_ldcS (pc := 17) C 2 dX1_readStatement_17 rfl ?_
    refine r_cVI (pc := 19) C [.ref ((x_D X).2.2.2.1 2)] [] (z_KX.zero hT) (s_X1_isWord a 2) mt_X1_isWord zc_1 dX1_readStatement_19 ml_X1_72 im_X1_isWord se_X1_isWord rfl rfl rfl (Nat.le_of_ble_eq_true rfl) ⟨Nat.le_of_ble_eq_true rfl, Nat.le_of_ble_eq_true rfl⟩ (fun r2 => ?_)
    refine r_if_eq (pc := 22) C (tgt := 32) dX1_readStatement_22 rfl (fun _ => ?_) (fun _ => ?_)
    · refine r_aload_n (pc := 32) C dX1_readStatement_32 rfl rfl ?_
      refine r_ldcS (pc := 33) C 3 dX1_readStatement_33 rfl ?_
      refine r_cVI (pc := 35) C [.ref ((x_D X).2.2.2.1 3)] [] (z_KX.zero hT) (s_X1_isWord a 3) mt_X1_isWord zc_1 dX1_readStatement_35 ml_X1_72 im_X1_isWord se_X1_isWord rfl rfl rfl (Nat.le_of_ble_eq_true rfl) ⟨Nat.le_of_ble_eq_true rfl, Nat.le_of_ble_eq_true rfl⟩ (fun r3 => ?_)
      refine r_if_eq (pc := 38) C (tgt := 48) dX1_readStatement_38 rfl (fun _ => ?_) (fun _ => ?_)
      · refine r_aload_n (pc := 48) C dX1_readStatement_48 rfl rfl ?_
        refine r_ldcS (pc := 49) C 4 dX1_readStatement_49 rfl ?_
        refine r_cVI (pc := 51) C [.ref ((x_D X).2.2.2.1 4)] [] (z_KX.zero hT) (s_X1_isWord a 4) mt_X1_isWord zc_1 dX1_readStatement_51 ml_X1_72 im_X1_isWord se_X1_isWord rfl rfl rfl (Nat.le_of_ble_eq_true rfl) ⟨Nat.le_of_ble_eq_true rfl, Nat.le_of_ble_eq_true rfl⟩ (fun r4 => ?_)
        refine r_if_eq (pc := 54) C (tgt := 64) dX1_readStatement_54 rfl (fun _ => ?_) (fun _ => ?_)
        · refine r_aload_n (pc := 64) C dX1_readStatement_64 rfl rfl ?_
          refine r_ldcS (pc := 65) C 5 dX1_readStatement_65 rfl ?_
          refine r_cVI (pc := 67) C [.ref ((x_D X).2.2.2.1 5)] [] (z_KX.zero hT) (s_X1_isWord a 5) mt_X1_isWord zc_1 dX1_readStatement_67 ml_X1_72 im_X1_isWord se_X1_isWord rfl rfl rfl (Nat.le_of_ble_eq_true rfl) ⟨Nat.le_of_ble_eq_true rfl, Nat.le_of_ble_eq_true rfl⟩ (fun r5 => ?_)
          refine r_if_eq (pc := 70) C (tgt := 80) dX1_readStatement_70 rfl (fun _ => ?_) (fun _ => ?_)
          · refine r_aload_n (pc := 80) C dX1_readStatement_80 rfl rfl ?_
            refine r_ldcS (pc := 81) C 6 dX1_readStatement_81 rfl ?_
            refine r_cVI (pc := 83) C [.ref ((x_D X).2.2.2.1 6)] [] (z_KX.zero hT) (s_X1_isWord a 6) mt_X1_isWord zc_1 dX1_readStatement_83 ml_X1_72 im_X1_isWord se_X1_isWord rfl rfl rfl (Nat.le_of_ble_eq_true rfl) ⟨Nat.le_of_ble_eq_true rfl, Nat.le_of_ble_eq_true rfl⟩ (fun r6 => ?_)
            refine r_if_eq (pc := 86) C (tgt := 96) dX1_readStatement_86 rfl (fun _ => ?_) (fun _ => ?_)
            · refine r_aload_n (pc := 96) C dX1_readStatement_96 rfl rfl ?_
              refine r_ldcS (pc := 97) C 7 dX1_readStatement_97 rfl ?_
              refine r_cVI (pc := 99) C [.ref ((x_D X).2.2.2.1 7)] [] (z_KX.zero hT) (s_X1_isWord a 7) mt_X1_isWord zc_1 dX1_readStatement_99 ml_X1_72 im_X1_isWord se_X1_isWord rfl rfl rfl (Nat.le_of_ble_eq_true rfl) ⟨Nat.le_of_ble_eq_true rfl, Nat.le_of_ble_eq_true rfl⟩ (fun r7 => ?_)
              refine r_if_eq (pc := 102) C (tgt := 112) dX1_readStatement_102 rfl (fun _ => ?_) (fun _ => ?_)
              · refine r_aload_n (pc := 112) C dX1_readStatement_112 rfl rfl ?_
                refine r_iconst (pc := 113) C dX1_readStatement_113 ki_1 ?_
                refine r_cVV (pc := 114) C [.int 1] [] (z_KX.zero hT) (s_X1_fail a 1) mt_X1_fail zc_1 dX1_readStatement_114 ml_X1_109 im_X1_fail se_X1_fail rfl rfl rfl (Nat.le_of_ble_eq_true rfl) ⟨Nat.le_of_ble_eq_true rfl, Nat.le_of_ble_eq_true rfl⟩ ?_
                exact r_vret (pc := 117) C dX1_readStatement_117
              · refine r_aload_n (pc := 105) C dX1_readStatement_105 rfl rfl ?_
                refine r_cVV (pc := 106) C [] [] (z_KX.zero hT) (s_X1_readFare a) mt_X1_readFare zc_1 dX1_readStatement_106 ml_X1_106 im_X1_readFare se_X1_readFare rfl rfl rfl (Nat.le_of_ble_eq_true rfl) ⟨Nat.le_of_ble_eq_true rfl, Nat.le_of_ble_eq_true rfl⟩ ?_
                refine r_goto (pc := 109) C (tgt := 117) dX1_readStatement_109 rfl ?_
                exact r_vret (pc := 117) C dX1_readStatement_117
            · refine r_aload_n (pc := 89) C dX1_readStatement_89 rfl rfl ?_
              refine r_cVV (pc := 90) C [] [] (z_KX.zero hT) (s_X1_readBonus a) mt_X1_readBonus zc_1 dX1_readStatement_90 ml_X1_101 im_X1_readBonus se_X1_readBonus rfl rfl rfl (Nat.le_of_ble_eq_true rfl) ⟨Nat.le_of_ble_eq_true rfl, Nat.le_of_ble_eq_true rfl⟩ ?_
              refine r_goto (pc := 93) C (tgt := 117) dX1_readStatement_93 rfl ?_
              exact r_vret (pc := 117) C dX1_readStatement_117
          · refine r_aload_n (pc := 73) C dX1_readStatement_73 rfl rfl ?_
            refine r_cVV (pc := 74) C [] [] (z_KX.zero hT) (s_X1_readBalance a) mt_X1_readBalance zc_1 dX1_readStatement_74 ml_X1_96 im_X1_readBalance se_X1_readBalance rfl rfl rfl (Nat.le_of_ble_eq_true rfl) ⟨Nat.le_of_ble_eq_true rfl, Nat.le_of_ble_eq_true rfl⟩ ?_
            refine r_goto (pc := 77) C (tgt := 117) dX1_readStatement_77 rfl ?_
            exact r_vret (pc := 117) C dX1_readStatement_117
        · refine r_aload_n (pc := 57) C dX1_readStatement_57 rfl rfl ?_
          refine r_cVV (pc := 58) C [] [] (z_KX.zero hT) (s_X1_readPace a) mt_X1_readPace zc_1 dX1_readStatement_58 ml_X1_91 im_X1_readPace se_X1_readPace rfl rfl rfl (Nat.le_of_ble_eq_true rfl) ⟨Nat.le_of_ble_eq_true rfl, Nat.le_of_ble_eq_true rfl⟩ ?_
          refine r_goto (pc := 61) C (tgt := 117) dX1_readStatement_61 rfl ?_
          exact r_vret (pc := 117) C dX1_readStatement_117
      · refine r_aload_n (pc := 41) C dX1_readStatement_41 rfl rfl ?_
        refine r_cVV (pc := 42) C [] [] (z_KX.zero hT) (s_X1_readTrip a) mt_X1_readTrip zc_1 dX1_readStatement_42 ml_X1_86 im_X1_readTrip se_X1_readTrip rfl rfl rfl (Nat.le_of_ble_eq_true rfl) ⟨Nat.le_of_ble_eq_true rfl, Nat.le_of_ble_eq_true rfl⟩ ?_
        refine r_goto (pc := 45) C (tgt := 117) dX1_readStatement_45 rfl ?_
        exact r_vret (pc := 117) C dX1_readStatement_117
    · refine r_aload_n (pc := 25) C dX1_readStatement_25 rfl rfl ?_
      refine r_cVV (pc := 26) C [] [] (z_KX.zero hT) (s_X1_readTruck a) mt_X1_readTruck zc_1 dX1_readStatement_26 ml_X1_81 im_X1_readTruck se_X1_readTruck rfl rfl rfl (Nat.le_of_ble_eq_true rfl) ⟨Nat.le_of_ble_eq_true rfl, Nat.le_of_ble_eq_true rfl⟩ ?_
      refine r_goto (pc := 29) C (tgt := 117) dX1_readStatement_29 rfl ?_
      exact r_vret (pc := 117) C dX1_readStatement_117
  · refine r_aload_n (pc := 9) C dX1_readStatement_9 rfl rfl ?_
    refine r_cVV (pc := 10) C [] [] (z_KX.zero hT) (s_X1_readStation a) mt_X1_readStation zc_1 dX1_readStatement_10 ml_X1_76 im_X1_readStation se_X1_readStation rfl rfl rfl (Nat.le_of_ble_eq_true rfl) ⟨Nat.le_of_ble_eq_true rfl, Nat.le_of_ble_eq_true rfl⟩ ?_
    refine r_goto (pc := 13) C (tgt := 117) dX1_readStatement_13 rfl ?_
    exact r_vret (pc := 117) C dX1_readStatement_117
noncomputable def p_X1_expectSign (a : Nat) (p1 : Int32) : zP Unit := (z_bd (z_cv 1 a (p_X1_isSign a p1)) (fun r1 => (z_jn (τ := Unit) (if r1 = 0 then (z_bd (z_cv 1 a (p_X1_fail a 1)) (fun _ => (z_pu (.inl ())))) else (z_pu (.inl ()))) (fun t2 => (z_bd (z_cv 1 a (p_X1_nextToken a)) (fun _ => (z_pu ())))))))
set_option maxHeartbeats 4000000 in
set_option maxRecDepth 100000 in
theorem s_X1_expectSign (a : Nat) (p1 : Int32) : z_Sound yX1_expectSign cX1_expectSign 2 none 3 60 (fun D b => [.ref (b + a), .int p1]) z_ivV (p_X1_expectSign a p1) := by
  refine z_ofSim rfl (by intro D b; exact Nat.le_of_ble_eq_true rfl) (fun X C hT => ?_)
  unfold p_X1_expectSign
  refine r_sub [(0, .ref (x_b X + a)), (1, .int p1)] rfl ?_
  refine r_aload_n (pc := 0) C dX1_expectSign_0 rfl rfl ?_
  refine r_iload_n (pc := 1) C dX1_expectSign_1 rfl rfl ?_
  refine r_cVI (pc := 2) C [.int p1] [] (z_KX.zero hT) (s_X1_isSign a p1) mt_X1_isSign zc_1 dX1_expectSign_2 ml_X1_168 im_X1_isSign se_X1_isSign rfl rfl rfl (Nat.le_of_ble_eq_true rfl) ⟨Nat.le_of_ble_eq_true rfl, Nat.le_of_ble_eq_true rfl⟩ (fun r1 => ?_)
  refine r_jn 13 (fun (t2 : Unit) => [(0, .ref (x_b X + a))]) (fun (t2 : Unit) => []) (fun t2 => ?_) ?_
  · refine r_aload_n (pc := 13) C dX1_expectSign_13 rfl rfl ?_
    refine r_cVV (pc := 14) C [] [] (z_KX.zero hT) (s_X1_nextToken a) mt_X1_nextToken zc_1 dX1_expectSign_14 ml_X1_57 im_X1_nextToken se_X1_nextToken rfl rfl rfl (Nat.le_of_ble_eq_true rfl) ⟨Nat.le_of_ble_eq_true rfl, Nat.le_of_ble_eq_true rfl⟩ ?_
    exact r_vret (pc := 17) C dX1_expectSign_17
  · refine r_if_ne (pc := 5) C (tgt := 13) dX1_expectSign_5 rfl (fun _ => ?_) (fun _ => ?_)
    · refine r_aload_n (pc := 8) C dX1_expectSign_8 rfl rfl ?_
      refine r_iconst (pc := 9) C dX1_expectSign_9 ki_1 ?_
      refine r_cVV (pc := 10) C [.int 1] [] (z_KX.up (z_KX.zero hT)) (s_X1_fail a 1) mt_X1_fail zc_1 dX1_expectSign_10 ml_X1_109 im_X1_fail se_X1_fail rfl rfl rfl (Nat.le_of_ble_eq_true rfl) ⟨Nat.le_of_ble_eq_true rfl, Nat.le_of_ble_eq_true rfl⟩ ?_
      refine r_sub [(0, .ref (x_b X + a))] rfl ?_
      exact r_br (τ := Unit) ()
    · refine r_sub [(0, .ref (x_b X + a))] rfl ?_
      exact r_br (τ := Unit) ()
noncomputable def p_X1_readCity (a : Nat) (p1 : Nat) (p2 : Int32) (p3 : Nat) : zP Int32 := (z_bd (z_pR 1 a 2 (some p1)) (fun _ => (z_bd (z_al 10 p1) (fun v1 => (z_bd (z_pu (if v1 < p2 then v1 else p2)) (fun x2 => (z_bd (z_pI 1 a 4 x2) (fun _ => (z_bd (z_pR 1 a 3 (some p3)) (fun _ => (z_bd (z_gA 1 a 3) (fun v3 => (z_bd (z_cv 0 v3 (p_X0_clear v3)) (fun _ => (z_bd (z_pI 1 a 6 0) (fun _ => (z_bd (z_pI 1 a 9 0) (fun _ => (z_bd (z_pZ 1 a 10 0) (fun _ => (z_bd (z_pZ 1 a 11 0) (fun _ => (z_bd (z_pZ 1 a 12 0) (fun _ => (z_bd (z_pZ 1 a 13 0) (fun _ => (z_bd (z_cv 1 a (p_X1_nextToken a)) (fun _ => (z_bd (z_gI 1 a 4) (fun v6 => (z_jn (τ := Unit) (z_lp (fun (t8 : Int32) => (if t8 ≤ 0 then (z_pu (.inr (.inl ()))) else (z_bd (z_gI 1 a 7) (fun v9 => (if v9 = 0 then (z_pu (.inr (.inl ()))) else (z_bd (z_gI 1 a 9) (fun v10 => (if v10 = 0 then (z_bd (z_cv 1 a (p_X1_readStatement a)) (fun _ => (z_bd (z_cv 1 a (p_X1_expectSign a 59)) (fun _ => (z_pu (.inl ((t8 + (-1))))))))) else (z_pu (.inr (.inl ()))))))))))) v6) (fun t7 => (z_bd (z_gI 1 a 9) (fun v13 => (z_pu v13)))))))))))))))))))))))))))))))))))
set_option maxHeartbeats 4000000 in
set_option maxRecDepth 100000 in
theorem s_X1_readCity (a : Nat) (p1 : Nat) (p2 : Int32) (p3 : Nat) : z_Sound yX1_readCity cX1_readCity 5 (some .int) 12 285 (fun D b => [.ref (b + a), .ref (b + p1), .int p2, .ref (b + p3)]) z_ivI (p_X1_readCity a p1 p2 p3) := by
  refine z_ofSim rfl (by intro D b; exact Nat.le_of_ble_eq_true rfl) (fun X C hT => ?_)
  unfold p_X1_readCity
  refine r_sub [(0, .ref (x_b X + a)), (1, .ref (x_b X + p1)), (2, .int p2), (3, .ref (x_b X + p3))] rfl ?_
  refine r_aload_n (pc := 0) C dX1_readCity_0 rfl rfl ?_
  refine r_aload_n (pc := 1) C dX1_readCity_1 rfl rfl ?_
  refine r_putA (pc := 2) C dX1_readCity_2 fl_X1_15 rfl (Or.inl rfl) ?_
  refine r_aload_n (pc := 5) C dX1_readCity_5 rfl rfl ?_
  refine r_iload_n (pc := 6) C dX1_readCity_6 rfl rfl ?_
  refine r_aload_n (pc := 7) C dX1_readCity_7 rfl rfl ?_
  refine r_alen (pc := 8) C (by decide) dX1_readCity_8 (fun v1 => ?_)
  refine r_min (pc := 9) C dX1_readCity_9 ml_X1_19 sm_min ini_math cd_min (Nat.le_of_ble_eq_true rfl) (Nat.le_of_ble_eq_true rfl) ?_
  refine r_sub [(0, .ref (x_b X + a)), (3, .ref (x_b X + p3))] rfl ?_
  refine r_let (if v1 < p2 then v1 else p2) (fun x2 => [(0, .ref (x_b X + a)), (3, .ref (x_b X + p3))]) (fun x2 => [.int x2, .ref (x_b X + a)]) (fun x2 => ?_)
  refine r_putI (pc := 12) C dX1_readCity_12 fl_X1_25 rfl rfl ?_
  refine r_aload_n (pc := 15) C dX1_readCity_15 rfl rfl ?_
  refine r_aload_n (pc := 16) C dX1_readCity_16 rfl rfl ?_
  refine r_putA (pc := 17) C dX1_readCity_17 fl_X1_29 rfl (Or.inl rfl) ?_
  refine r_aload_n (pc := 20) C dX1_readCity_20 rfl rfl ?_
  refine r_getA (pc := 21) C dX1_readCity_21 fl_X1_29 rfl (fun v3 => ?_)
  refine r_cVV (pc := 24) C [] [] (z_KX.zero hT) (s_X0_clear v3) mt_X0_clear zc_0 dX1_readCity_24 ml_X1_33 im_X0_clear se_X0_clear rfl rfl rfl (Nat.le_of_ble_eq_true rfl) ⟨Nat.le_of_ble_eq_true rfl, Nat.le_of_ble_eq_true rfl⟩ ?_
  refine r_aload_n (pc := 27) C dX1_readCity_27 rfl rfl ?_
  refine r_iconst (pc := 28) C dX1_readCity_28 ki_0 ?_
  refine r_putI (pc := 29) C dX1_readCity_29 fl_X1_38 rfl rfl ?_
  refine r_aload_n (pc := 32) C dX1_readCity_32 rfl rfl ?_
  refine r_iconst (pc := 33) C dX1_readCity_33 ki_0 ?_
  refine r_putI (pc := 34) C dX1_readCity_34 fl_X1_41 rfl rfl ?_
  refine r_aload_n (pc := 37) C dX1_readCity_37 rfl rfl ?_
  refine r_iconst (pc := 38) C dX1_readCity_38 ki_0 ?_
  refine r_putZ (pc := 39) C dX1_readCity_39 fl_X1_44 rfl rfl ?_
  refine r_aload_n (pc := 42) C dX1_readCity_42 rfl rfl ?_
  refine r_iconst (pc := 43) C dX1_readCity_43 ki_0 ?_
  refine r_putZ (pc := 44) C dX1_readCity_44 fl_X1_48 rfl rfl ?_
  refine r_aload_n (pc := 47) C dX1_readCity_47 rfl rfl ?_
  refine r_iconst (pc := 48) C dX1_readCity_48 ki_0 ?_
  refine r_putZ (pc := 49) C dX1_readCity_49 fl_X1_51 rfl rfl ?_
  refine r_aload_n (pc := 52) C dX1_readCity_52 rfl rfl ?_
  refine r_iconst (pc := 53) C dX1_readCity_53 ki_0 ?_
  refine r_putZ (pc := 54) C dX1_readCity_54 fl_X1_54 rfl rfl ?_
  refine r_aload_n (pc := 57) C dX1_readCity_57 rfl rfl ?_
  refine r_cVV (pc := 58) C [] [] (z_KX.zero hT) (s_X1_nextToken a) mt_X1_nextToken zc_1 dX1_readCity_58 ml_X1_57 im_X1_nextToken se_X1_nextToken rfl rfl rfl (Nat.le_of_ble_eq_true rfl) ⟨Nat.le_of_ble_eq_true rfl, Nat.le_of_ble_eq_true rfl⟩ ?_
  refine r_aload_n (pc := 61) C dX1_readCity_61 rfl rfl ?_
  refine r_getI (pc := 62) C dX1_readCity_62 fl_X1_25 rfl (fun v6 => ?_)
  refine r_sti (pc := 65) C [(0, .ref (x_b X + a)), (4, .int v6)] dX1_readCity_65 (by decide) rfl ?_
  refine r_jn 102 (fun (t7 : Unit) => [(0, .ref (x_b X + a))]) (fun (t7 : Unit) => []) (fun t7 => ?_) ?_
  · refine r_aload_n (pc := 102) C dX1_readCity_102 rfl rfl ?_
    refine r_getI (pc := 103) C dX1_readCity_103 fl_X1_41 rfl (fun v13 => ?_)
    exact r_iret (pc := 106) C dX1_readCity_106
  · refine r_sub [(0, .ref (x_b X + a)), (4, .int v6)] rfl ?_
    refine r_lp (pc := 67) (fun (t8 : Int32) => [(0, .ref (x_b X + a)), (4, .int t8)]) (fun t8 => ?_) v6
    refine r_iload (pc := 67) C dX1_readCity_67 rfl ?_
    refine r_if_le (pc := 69) C (tgt := 102) dX1_readCity_69 rfl (fun _ => ?_) (fun _ => ?_)
    · refine r_sub [(0, .ref (x_b X + a))] rfl ?_
      exact r_up (r_br (τ := Unit) ())
    · refine r_aload_n (pc := 72) C dX1_readCity_72 rfl rfl ?_
      refine r_getI (pc := 73) C dX1_readCity_73 fl_X1_60 rfl (fun v9 => ?_)
      refine r_if_eq (pc := 76) C (tgt := 102) dX1_readCity_76 rfl (fun _ => ?_) (fun _ => ?_)
      · refine r_sub [(0, .ref (x_b X + a))] rfl ?_
        exact r_up (r_br (τ := Unit) ())
      · refine r_aload_n (pc := 79) C dX1_readCity_79 rfl rfl ?_
        refine r_getI (pc := 80) C dX1_readCity_80 fl_X1_41 rfl (fun v10 => ?_)
        refine r_if_ne (pc := 83) C (tgt := 102) dX1_readCity_83 rfl (fun _ => ?_) (fun _ => ?_)
        · refine r_aload_n (pc := 86) C dX1_readCity_86 rfl rfl ?_
          refine r_cVV (pc := 87) C [] [] (z_KX.up (z_KX.up (z_KX.zero hT))) (s_X1_readStatement a) mt_X1_readStatement zc_1 dX1_readCity_87 ml_X1_63 im_X1_readStatement se_X1_readStatement rfl rfl rfl (Nat.le_of_ble_eq_true rfl) ⟨Nat.le_of_ble_eq_true rfl, Nat.le_of_ble_eq_true rfl⟩ ?_
          refine r_aload_n (pc := 90) C dX1_readCity_90 rfl rfl ?_
          refine r_bipush (pc := 91) C dX1_readCity_91 kb_59 ?_
          refine r_cVV (pc := 93) C [.int 59] [] (z_KX.up (z_KX.up (z_KX.zero hT))) (s_X1_expectSign a 59) mt_X1_expectSign zc_1 dX1_readCity_93 ml_X1_66 im_X1_expectSign se_X1_expectSign rfl rfl rfl (Nat.le_of_ble_eq_true rfl) ⟨Nat.le_of_ble_eq_true rfl, Nat.le_of_ble_eq_true rfl⟩ ?_
          refine r_inc (pc := 96) C (-1) [(0, .ref (x_b X + a)), (4, .int (t8 + (-1)))] dX1_readCity_96 rfl ki_m1 (by decide) rfl ?_
          refine r_goto (pc := 99) C (tgt := 67) dX1_readCity_99 rfl ?_
          refine r_sub [(0, .ref (x_b X + a)), (4, .int (t8 + (-1)))] rfl ?_
          exact r_br (τ := Int32) ((t8 + (-1)))
        · refine r_sub [(0, .ref (x_b X + a))] rfl ?_
          exact r_up (r_br (τ := Unit) ())
