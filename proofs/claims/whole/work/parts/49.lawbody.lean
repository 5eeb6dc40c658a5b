noncomputable def p_L_body (xs : Nat → Int32) (L : Nat) (v1 v2 v3 : Nat) (i : Int32) : zP (Int32 ⊕ Int32) := (if ((nI L) - 6) < i then (z_pu (.inr 1)) else (z_bd (z_xs xs L i) (fun v101 => (if (v101 &&& 63) = 0 then p_L_c0 xs L v1 v2 v3 i else (if (v101 &&& 63) = 1 then p_L_c1 xs L v1 v2 v3 i else (if (v101 &&& 63) = 2 then p_L_c2 xs L v1 v2 v3 i else (if (v101 &&& 63) = 3 then p_L_c3 xs L v1 v2 v3 i else (if (v101 &&& 63) = 4 then p_L_c4 xs L v1 v2 v3 i else (if (v101 &&& 63) = 5 then p_L_c5 xs L v1 v2 v3 i else (if (v101 &&& 63) = 6 then p_L_c6 xs L v1 v2 v3 i else (if (v101 &&& 63) = 7 then p_L_c7 xs L v1 v2 v3 i else (if (v101 &&& 63) = 8 then p_L_c8 xs L v1 v2 v3 i else (if (v101 &&& 63) = 9 then p_L_c9 xs L v1 v2 v3 i else (if (v101 &&& 63) = 10 then p_L_c10 xs L v1 v2 v3 i else (if (v101 &&& 63) = 11 then p_L_c11 xs L v1 v2 v3 i else (if (v101 &&& 63) = 12 then p_L_c12 xs L v1 v2 v3 i else (if (v101 &&& 63) = 13 then p_L_c13 xs L v1 v2 v3 i else (if (v101 &&& 63) = 14 then p_L_c14 xs L v1 v2 v3 i else (if (v101 &&& 63) = 15 then p_L_c15 xs L v1 v2 v3 i else (if (v101 &&& 63) = 16 then p_L_c16 xs L v1 v2 v3 i else (if (v101 &&& 63) = 17 then p_L_c17 xs L v1 v2 v3 i else (if (v101 &&& 63) = 18 then p_L_c18 xs L v1 v2 v3 i else (if (v101 &&& 63) = 19 then p_L_c19 xs L v1 v2 v3 i else (if (v101 &&& 63) = 20 then p_L_c20 xs L v1 v2 v3 i else (if (v101 &&& 63) = 21 then p_L_c21 xs L v1 v2 v3 i else (if (v101 &&& 63) = 22 then p_L_c22 xs L v1 v2 v3 i else (if (v101 &&& 63) = 23 then p_L_c23 xs L v1 v2 v3 i else (if (v101 &&& 63) = 24 then p_L_c24 xs L v1 v2 v3 i else (if (v101 &&& 63) = 25 then p_L_c25 xs L v1 v2 v3 i else (if (v101 &&& 63) = 26 then p_L_c26 xs L v1 v2 v3 i else (if (v101 &&& 63) = 27 then p_L_c27 xs L v1 v2 v3 i else (if (v101 &&& 63) = 28 then p_L_c28 xs L v1 v2 v3 i else (if (v101 &&& 63) = 29 then p_L_c29 xs L v1 v2 v3 i else (if (v101 &&& 63) = 30 then p_L_c30 xs L v1 v2 v3 i else (if (v101 &&& 63) = 31 then p_L_c31 xs L v1 v2 v3 i else (if (v101 &&& 63) = 32 then p_L_c32 xs L v1 v2 v3 i else (if (v101 &&& 63) = 33 then p_L_c33 xs L v1 v2 v3 i else (if (v101 &&& 63) = 34 then p_L_c34 xs L v1 v2 v3 i else (if (v101 &&& 63) = 35 then p_L_c35 xs L v1 v2 v3 i else (z_pu (.inl ((i + 6)))))))))))))))))))))))))))))))))))))))))))
set_option maxHeartbeats 4000000 in
set_option maxRecDepth 100000 in
theorem s_L_body {X : zX} (C : z_Ok X x code 7 ret 2048 84000) (hT : z_Nt X) {sb L : Nat} {xs : Nat → Int32} (hX : va_X sb L xs (x_s X) (x_s X).heap) (hsb : sb < x_b X) (v1 v2 v3 : Nat) (i : Int32) : z_Sim X 7 (z_KT X 7 (z_K0 X z_ivI) 23 (fun (t0 : Int32) => [(0, .ref sb), (1, .ref (x_b X + v1)), (2, .ref (x_b X + v2)), (3, .ref (x_b X + v3)), (4, .int t0)]) (fun _ => [])) 23 [(0, .ref sb), (1, .ref (x_b X + v1)), (2, .ref (x_b X + v2)), (3, .ref (x_b X + v3)), (4, .int i)] [] (p_L_body xs L v1 v2 v3 i) := by
  unfold p_L_body
  refine r_iload (pc := 23) C dL_law_23 rfl ?_
  refine r_aload_n (pc := 25) C dL_law_25 rfl rfl ?_
  refine r_sln (pc := 26) C hX hsb dL_law_26 ?_
  refine r_bipush (pc := 27) C dL_law_27 kb_6 ?_
  refine r_isub (pc := 29) C dL_law_29 ?_
  refine r_icmp_gt (pc := 30) C (tgt := 2126) dL_law_30 rfl (fun _ => ?_) (fun _ => ?_)
  · refine r_iconst (pc := 2126) C dL_law_2126 ki_1 ?_
    exact r_up (r_zret1 (pc := 2127) C dL_law_2127 (by decide))
  · refine r_aload_n (pc := 33) C dL_law_33 rfl rfl ?_
    refine r_iload (pc := 34) C dL_law_34 rfl ?_
    refine r_sld (pc := 36) C hX hsb dL_law_36 (fun v101 => ?_)
    refine r_bipush (pc := 37) C dL_law_37 kb_63 ?_
    refine r_iand (pc := 39) C dL_law_39 ?_
    refine r_ite (fun h40_0 => ?_) (fun h40_0 => ?_)
    · refine r_tin (pc := 40) C (k := 0) (off := 160) (tgt := 200) dL_law_40 h40_0 (by decide) rfl ?_
      refine r_sub [(0, .ref sb), (1, .ref (x_b X + v1)), (2, .ref (x_b X + v2)), (3, .ref (x_b X + v3)), (4, .int i)] rfl ?_
      exact s_L_c0 C hT hX hsb v1 v2 v3 i
    refine r_ite (fun h40_1 => ?_) (fun h40_1 => ?_)
    · refine r_tin (pc := 40) C (k := 1) (off := 233) (tgt := 273) dL_law_40 h40_1 (by decide) rfl ?_
      refine r_sub [(0, .ref sb), (1, .ref (x_b X + v1)), (2, .ref (x_b X + v2)), (3, .ref (x_b X + v3)), (4, .int i)] rfl ?_
      exact s_L_c1 C hT hX hsb v1 v2 v3 i
    refine r_ite (fun h40_2 => ?_) (fun h40_2 => ?_)
    · refine r_tin (pc := 40) C (k := 2) (off := 289) (tgt := 329) dL_law_40 h40_2 (by decide) rfl ?_
      refine r_sub [(0, .ref sb), (1, .ref (x_b X + v1)), (2, .ref (x_b X + v2)), (3, .ref (x_b X + v3)), (4, .int i)] rfl ?_
      exact s_L_c2 C hT hX hsb v1 v2 v3 i
    refine r_ite (fun h40_3 => ?_) (fun h40_3 => ?_)
    · refine r_tin (pc := 40) C (k := 3) (off := 345) (tgt := 385) dL_law_40 h40_3 (by decide) rfl ?_
      refine r_sub [(0, .ref sb), (1, .ref (x_b X + v1)), (2, .ref (x_b X + v2)), (3, .ref (x_b X + v3)), (4, .int i)] rfl ?_
      exact s_L_c3 C hT hX hsb v1 v2 v3 i
    refine r_ite (fun h40_4 => ?_) (fun h40_4 => ?_)
    · refine r_tin (pc := 40) C (k := 4) (off := 358) (tgt := 398) dL_law_40 h40_4 (by decide) rfl ?_
      refine r_sub [(0, .ref sb), (1, .ref (x_b X + v1)), (2, .ref (x_b X + v2)), (3, .ref (x_b X + v3)), (4, .int i)] rfl ?_
      exact s_L_c4 C hT hX hsb v1 v2 v3 i
    refine r_ite (fun h40_5 => ?_) (fun h40_5 => ?_)
    · refine r_tin (pc := 40) C (k := 5) (off := 371) (tgt := 411) dL_law_40 h40_5 (by decide) rfl ?_
      refine r_sub [(0, .ref sb), (1, .ref (x_b X + v1)), (2, .ref (x_b X + v2)), (3, .ref (x_b X + v3)), (4, .int i)] rfl ?_
      exact s_L_c5 C hT hX hsb v1 v2 v3 i
    refine r_ite (fun h40_6 => ?_) (fun h40_6 => ?_)
    · refine r_tin (pc := 40) C (k := 6) (off := 427) (tgt := 467) dL_law_40 h40_6 (by decide) rfl ?_
      refine r_sub [(0, .ref sb), (1, .ref (x_b X + v1)), (2, .ref (x_b X + v2)), (3, .ref (x_b X + v3)), (4, .int i)] rfl ?_
      exact s_L_c6 C hT hX hsb v1 v2 v3 i
    refine r_ite (fun h40_7 => ?_) (fun h40_7 => ?_)
    · refine r_tin (pc := 40) C (k := 7) (off := 483) (tgt := 523) dL_law_40 h40_7 (by decide) rfl ?_
      refine r_sub [(0, .ref sb), (1, .ref (x_b X + v1)), (2, .ref (x_b X + v2)), (3, .ref (x_b X + v3)), (4, .int i)] rfl ?_
      exact s_L_c7 C hT hX hsb v1 v2 v3 i
    refine r_ite (fun h40_8 => ?_) (fun h40_8 => ?_)
    · refine r_tin (pc := 40) C (k := 8) (off := 539) (tgt := 579) dL_law_40 h40_8 (by decide) rfl ?_
      refine r_sub [(0, .ref sb), (1, .ref (x_b X + v1)), (2, .ref (x_b X + v2)), (3, .ref (x_b X + v3)), (4, .int i)] rfl ?_
      exact s_L_c8 C hT hX hsb v1 v2 v3 i
    refine r_ite (fun h40_9 => ?_) (fun h40_9 => ?_)
    · refine r_tin (pc := 40) C (k := 9) (off := 602) (tgt := 642) dL_law_40 h40_9 (by decide) rfl ?_
      refine r_sub [(0, .ref sb), (1, .ref (x_b X + v1)), (2, .ref (x_b X + v2)), (3, .ref (x_b X + v3)), (4, .int i)] rfl ?_
      exact s_L_c9 C hT hX hsb v1 v2 v3 i
    refine r_ite (fun h40_10 => ?_) (fun h40_10 => ?_)
    · refine r_tin (pc := 40) C (k := 10) (off := 615) (tgt := 655) dL_law_40 h40_10 (by decide) rfl ?_
      refine r_sub [(0, .ref sb), (1, .ref (x_b X + v1)), (2, .ref (x_b X + v2)), (3, .ref (x_b X + v3)), (4, .int i)] rfl ?_
      exact s_L_c10 C hT hX hsb v1 v2 v3 i
    refine r_ite (fun h40_11 => ?_) (fun h40_11 => ?_)
    · refine r_tin (pc := 40) C (k := 11) (off := 699) (tgt := 739) dL_law_40 h40_11 (by decide) rfl ?_
      refine r_sub [(0, .ref sb), (1, .ref (x_b X + v1)), (2, .ref (x_b X + v2)), (3, .ref (x_b X + v3)), (4, .int i)] rfl ?_
      exact s_L_c11 C hT hX hsb v1 v2 v3 i
    refine r_ite (fun h40_12 => ?_) (fun h40_12 => ?_)
    · refine r_tin (pc := 40) C (k := 12) (off := 767) (tgt := 807) dL_law_40 h40_12 (by decide) rfl ?_
      refine r_sub [(0, .ref sb), (1, .ref (x_b X + v1)), (2, .ref (x_b X + v2)), (3, .ref (x_b X + v3)), (4, .int i)] rfl ?_
      exact s_L_c12 C hT hX hsb v1 v2 v3 i
    refine r_ite (fun h40_13 => ?_) (fun h40_13 => ?_)
    · refine r_tin (pc := 40) C (k := 13) (off := 835) (tgt := 875) dL_law_40 h40_13 (by decide) rfl ?_
      refine r_sub [(0, .ref sb), (1, .ref (x_b X + v1)), (2, .ref (x_b X + v2)), (3, .ref (x_b X + v3)), (4, .int i)] rfl ?_
      exact s_L_c13 C hT hX hsb v1 v2 v3 i
    refine r_ite (fun h40_14 => ?_) (fun h40_14 => ?_)
    · refine r_tin (pc := 40) C (k := 14) (off := 891) (tgt := 931) dL_law_40 h40_14 (by decide) rfl ?_
      refine r_sub [(0, .ref sb), (1, .ref (x_b X + v1)), (2, .ref (x_b X + v2)), (3, .ref (x_b X + v3)), (4, .int i)] rfl ?_
      exact s_L_c14 C hT hX hsb v1 v2 v3 i
    refine r_ite (fun h40_15 => ?_) (fun h40_15 => ?_)
    · refine r_tin (pc := 40) C (k := 15) (off := 947) (tgt := 987) dL_law_40 h40_15 (by decide) rfl ?_
      refine r_sub [(0, .ref sb), (1, .ref (x_b X + v1)), (2, .ref (x_b X + v2)), (3, .ref (x_b X + v3)), (4, .int i)] rfl ?_
      exact s_L_c15 C hT hX hsb v1 v2 v3 i
    refine r_ite (fun h40_16 => ?_) (fun h40_16 => ?_)
    · refine r_tin (pc := 40) C (k := 16) (off := 960) (tgt := 1000) dL_law_40 h40_16 (by decide) rfl ?_
      refine r_sub [(0, .ref sb), (1, .ref (x_b X + v1)), (2, .ref (x_b X + v2)), (3, .ref (x_b X + v3)), (4, .int i)] rfl ?_
      exact s_L_c16 C hT hX hsb v1 v2 v3 i
    refine r_ite (fun h40_17 => ?_) (fun h40_17 => ?_)
    · refine r_tin (pc := 40) C (k := 17) (off := 1028) (tgt := 1068) dL_law_40 h40_17 (by decide) rfl ?_
      refine r_sub [(0, .ref sb), (1, .ref (x_b X + v1)), (2, .ref (x_b X + v2)), (3, .ref (x_b X + v3)), (4, .int i)] rfl ?_
      exact s_L_c17 C hT hX hsb v1 v2 v3 i
    refine r_ite (fun h40_18 => ?_) (fun h40_18 => ?_)
    · refine r_tin (pc := 40) C (k := 18) (off := 1096) (tgt := 1136) dL_law_40 h40_18 (by decide) rfl ?_
      refine r_sub [(0, .ref sb), (1, .ref (x_b X + v1)), (2, .ref (x_b X + v2)), (3, .ref (x_b X + v3)), (4, .int i)] rfl ?_
      exact s_L_c18 C hT hX hsb v1 v2 v3 i
    refine r_ite (fun h40_19 => ?_) (fun h40_19 => ?_)
    · refine r_tin (pc := 40) C (k := 19) (off := 1109) (tgt := 1149) dL_law_40 h40_19 (by decide) rfl ?_
      refine r_sub [(0, .ref sb), (1, .ref (x_b X + v1)), (2, .ref (x_b X + v2)), (3, .ref (x_b X + v3)), (4, .int i)] rfl ?_
      exact s_L_c19 C hT hX hsb v1 v2 v3 i
    refine r_ite (fun h40_20 => ?_) (fun h40_20 => ?_)
    · refine r_tin (pc := 40) C (k := 20) (off := 1177) (tgt := 1217) dL_law_40 h40_20 (by decide) rfl ?_
      refine r_sub [(0, .ref sb), (1, .ref (x_b X + v1)), (2, .ref (x_b X + v2)), (3, .ref (x_b X + v3)), (4, .int i)] rfl ?_
      exact s_L_c20 C hT hX hsb v1 v2 v3 i
    refine r_ite (fun h40_21 => ?_) (fun h40_21 => ?_)
    · refine r_tin (pc := 40) C (k := 21) (off := 1233) (tgt := 1273) dL_law_40 h40_21 (by decide) rfl ?_
      refine r_sub [(0, .ref sb), (1, .ref (x_b X + v1)), (2, .ref (x_b X + v2)), (3, .ref (x_b X + v3)), (4, .int i)] rfl ?_
      exact s_L_c21 C hT hX hsb v1 v2 v3 i
    refine r_ite (fun h40_22 => ?_) (fun h40_22 => ?_)
    · refine r_tin (pc := 40) C (k := 22) (off := 1301) (tgt := 1341) dL_law_40 h40_22 (by decide) rfl ?_
      refine r_sub [(0, .ref sb), (1, .ref (x_b X + v1)), (2, .ref (x_b X + v2)), (3, .ref (x_b X + v3)), (4, .int i)] rfl ?_
      exact s_L_c22 C hT hX hsb v1 v2 v3 i
    refine r_ite (fun h40_23 => ?_) (fun h40_23 => ?_)
    · refine r_tin (pc := 40) C (k := 23) (off := 1357) (tgt := 1397) dL_law_40 h40_23 (by decide) rfl ?_
      refine r_sub [(0, .ref sb), (1, .ref (x_b X + v1)), (2, .ref (x_b X + v2)), (3, .ref (x_b X + v3)), (4, .int i)] rfl ?_
      exact s_L_c23 C hT hX hsb v1 v2 v3 i
    refine r_ite (fun h40_24 => ?_) (fun h40_24 => ?_)
    · refine r_tin (pc := 40) C (k := 24) (off := 1425) (tgt := 1465) dL_law_40 h40_24 (by decide) rfl ?_
      refine r_sub [(0, .ref sb), (1, .ref (x_b X + v1)), (2, .ref (x_b X + v2)), (3, .ref (x_b X + v3)), (4, .int i)] rfl ?_
      exact s_L_c24 C hT hX hsb v1 v2 v3 i
    refine r_ite (fun h40_25 => ?_) (fun h40_25 => ?_)
    · refine r_tin (pc := 40) C (k := 25) (off := 1509) (tgt := 1549) dL_law_40 h40_25 (by decide) rfl ?_
      refine r_sub [(0, .ref sb), (1, .ref (x_b X + v1)), (2, .ref (x_b X + v2)), (3, .ref (x_b X + v3)), (4, .int i)] rfl ?_
      exact s_L_c25 C hT hX hsb v1 v2 v3 i
    refine r_ite (fun h40_26 => ?_) (fun h40_26 => ?_)
    · refine r_tin (pc := 40) C (k := 26) (off := 1565) (tgt := 1605) dL_law_40 h40_26 (by decide) rfl ?_
      refine r_sub [(0, .ref sb), (1, .ref (x_b X + v1)), (2, .ref (x_b X + v2)), (3, .ref (x_b X + v3)), (4, .int i)] rfl ?_
      exact s_L_c26 C hT hX hsb v1 v2 v3 i
    refine r_ite (fun h40_27 => ?_) (fun h40_27 => ?_)
    · refine r_tin (pc := 40) C (k := 27) (off := 1633) (tgt := 1673) dL_law_40 h40_27 (by decide) rfl ?_
      refine r_sub [(0, .ref sb), (1, .ref (x_b X + v1)), (2, .ref (x_b X + v2)), (3, .ref (x_b X + v3)), (4, .int i)] rfl ?_
      exact s_L_c27 C hT hX hsb v1 v2 v3 i
    refine r_ite (fun h40_28 => ?_) (fun h40_28 => ?_)
    · refine r_tin (pc := 40) C (k := 28) (off := 1713) (tgt := 1753) dL_law_40 h40_28 (by decide) rfl ?_
      refine r_sub [(0, .ref sb), (1, .ref (x_b X + v1)), (2, .ref (x_b X + v2)), (3, .ref (x_b X + v3)), (4, .int i)] rfl ?_
      exact s_L_c28 C hT hX hsb v1 v2 v3 i
    refine r_ite (fun h40_29 => ?_) (fun h40_29 => ?_)
    · refine r_tin (pc := 40) C (k := 29) (off := 1769) (tgt := 1809) dL_law_40 h40_29 (by decide) rfl ?_
      refine r_sub [(0, .ref sb), (1, .ref (x_b X + v1)), (2, .ref (x_b X + v2)), (3, .ref (x_b X + v3)), (4, .int i)] rfl ?_
      exact s_L_c29 C hT hX hsb v1 v2 v3 i
    refine r_ite (fun h40_30 => ?_) (fun h40_30 => ?_)
    · refine r_tin (pc := 40) C (k := 30) (off := 1825) (tgt := 1865) dL_law_40 h40_30 (by decide) rfl ?_
      refine r_sub [(0, .ref sb), (1, .ref (x_b X + v1)), (2, .ref (x_b X + v2)), (3, .ref (x_b X + v3)), (4, .int i)] rfl ?_
      exact s_L_c30 C hT hX hsb v1 v2 v3 i
    refine r_ite (fun h40_31 => ?_) (fun h40_31 => ?_)
    · refine r_tin (pc := 40) C (k := 31) (off := 1881) (tgt := 1921) dL_law_40 h40_31 (by decide) rfl ?_
      refine r_sub [(0, .ref sb), (1, .ref (x_b X + v1)), (2, .ref (x_b X + v2)), (3, .ref (x_b X + v3)), (4, .int i)] rfl ?_
      exact s_L_c31 C hT hX hsb v1 v2 v3 i
    refine r_ite (fun h40_32 => ?_) (fun h40_32 => ?_)
    · refine r_tin (pc := 40) C (k := 32) (off := 1949) (tgt := 1989) dL_law_40 h40_32 (by decide) rfl ?_
      refine r_sub [(0, .ref sb), (1, .ref (x_b X + v1)), (2, .ref (x_b X + v2)), (3, .ref (x_b X + v3)), (4, .int i)] rfl ?_
      exact s_L_c32 C hT hX hsb v1 v2 v3 i
    refine r_ite (fun h40_33 => ?_) (fun h40_33 => ?_)
    · refine r_tin (pc := 40) C (k := 33) (off := 2017) (tgt := 2057) dL_law_40 h40_33 (by decide) rfl ?_
      refine r_sub [(0, .ref sb), (1, .ref (x_b X + v1)), (2, .ref (x_b X + v2)), (3, .ref (x_b X + v3)), (4, .int i)] rfl ?_
      exact s_L_c33 C hT hX hsb v1 v2 v3 i
    refine r_ite (fun h40_34 => ?_) (fun h40_34 => ?_)
    · refine r_tin (pc := 40) C (k := 34) (off := 2030) (tgt := 2070) dL_law_40 h40_34 (by decide) rfl ?_
      refine r_sub [(0, .ref sb), (1, .ref (x_b X + v1)), (2, .ref (x_b X + v2)), (3, .ref (x_b X + v3)), (4, .int i)] rfl ?_
      exact s_L_c34 C hT hX hsb v1 v2 v3 i
    refine r_ite (fun h40_35 => ?_) (fun h40_35 => ?_)
    · refine r_tin (pc := 40) C (k := 35) (off := 2055) (tgt := 2095) dL_law_40 h40_35 (by decide) rfl ?_
      refine r_sub [(0, .ref sb), (1, .ref (x_b X + v1)), (2, .ref (x_b X + v2)), (3, .ref (x_b X + v3)), (4, .int i)] rfl ?_
      exact s_L_c35 C hT hX hsb v1 v2 v3 i
    refine r_tout (pc := 40) C (tgt := 2120) dL_law_40 (by have q0 := lv_neT h40_0 (a := 0) (by decide); have q1 := lv_neT h40_1 (a := 1) (by decide); have q2 := lv_neT h40_2 (a := 2) (by decide); have q3 := lv_neT h40_3 (a := 3) (by decide); have q4 := lv_neT h40_4 (a := 4) (by decide); have q5 := lv_neT h40_5 (a := 5) (by decide); have q6 := lv_neT h40_6 (a := 6) (by decide); have q7 := lv_neT h40_7 (a := 7) (by decide); have q8 := lv_neT h40_8 (a := 8) (by decide); have q9 := lv_neT h40_9 (a := 9) (by decide); have q10 := lv_neT h40_10 (a := 10) (by decide); have q11 := lv_neT h40_11 (a := 11) (by decide); have q12 := lv_neT h40_12 (a := 12) (by decide); have q13 := lv_neT h40_13 (a := 13) (by decide); have q14 := lv_neT h40_14 (a := 14) (by decide); have q15 := lv_neT h40_15 (a := 15) (by decide); have q16 := lv_neT h40_16 (a := 16) (by decide); have q17 := lv_neT h40_17 (a := 17) (by decide); have q18 := lv_neT h40_18 (a := 18) (by decide); have q19 := lv_neT h40_19 (a := 19) (by decide); have q20 := lv_neT h40_20 (a := 20) (by decide); have q21 := lv_neT h40_21 (a := 21) (by decide); have q22 := lv_neT h40_22 (a := 22) (by decide); have q23 := lv_neT h40_23 (a := 23) (by decide); have q24 := lv_neT h40_24 (a := 24) (by decide); have q25 := lv_neT h40_25 (a := 25) (by decide); have q26 := lv_neT h40_26 (a := 26) (by decide); have q27 := lv_neT h40_27 (a := 27) (by decide); have q28 := lv_neT h40_28 (a := 28) (by decide); have q29 := lv_neT h40_29 (a := 29) (by decide); have q30 := lv_neT h40_30 (a := 30) (by decide); have q31 := lv_neT h40_31 (a := 31) (by decide); have q32 := lv_neT h40_32 (a := 32) (by decide); have q33 := lv_neT h40_33 (a := 33) (by decide); have q34 := lv_neT h40_34 (a := 34) (by decide); have q35 := lv_neT h40_35 (a := 35) (by decide); omega) rfl ?_
    refine r_inc (pc := 2120) C 6 [(0, .ref sb), (1, .ref (x_b X + v1)), (2, .ref (x_b X + v2)), (3, .ref (x_b X + v3)), (4, .int (i + 6))] dL_law_2120 rfl ki_6 (by decide) rfl ?_
    refine r_goto (pc := 2123) C (tgt := 23) dL_law_2123 rfl ?_
    refine r_sub [(0, .ref sb), (1, .ref (x_b X + v1)), (2, .ref (x_b X + v2)), (3, .ref (x_b X + v3)), (4, .int (i + 6))] rfl ?_
    exact r_br (τ := Int32) ((i + 6))
noncomputable def p_L_law (xs : Nat → Int32) (L : Nat) : zP Int32 := (z_bd (z_nw 8 11) (fun v1 => (z_bd (p_X8_init v1) (fun _ => (z_bd (z_nw 9 34) (fun v2 => (z_bd (p_X9_init v2) (fun _ => (z_bd (z_na 15 1) (fun v3 => z_lp (fun (t : Int32) => p_L_body xs L v1 v2 v3 t) 0))))))))))
set_option maxHeartbeats 4000000 in
set_option maxRecDepth 100000 in
theorem s_L_law {X : zX} (C : z_Ok X x code 7 ret 2048 84000) (hT : z_Nt X) {sb L : Nat} {xs : Nat → Int32} (hX : va_X sb L xs (x_s X) (x_s X).heap) (hsb : sb < x_b X) : z_Sim X 7 (z_K0 X z_ivI) 0 [(0, .ref sb)] [] (p_L_law xs L) := by
  unfold p_L_law
  refine r_new (pc := 0) C dL_law_0 zc_8 zb_8 cl_L_8 ins_X8 ini_X8 (fun v1 => ?_)
  refine r_dup (pc := 3) C dL_law_3 rfl ?_
  refine r_cI (pc := 4) C [] [.ref (x_b X + v1)] (z_KX.zero hT) (s_X8_init v1) mt_X8_init dL_law_4 ml_L_101 im_X8_init rfl rfl rfl rfl (Nat.le_of_ble_eq_true rfl) ⟨Nat.le_of_ble_eq_true rfl, Nat.le_of_ble_eq_true rfl⟩ ?_
  refine r_sta_n (pc := 7) C 1 [(0, .ref sb), (1, .ref (x_b X + v1))] dL_law_7 rfl (by decide) rfl ?_
  refine r_new (pc := 8) C dL_law_8 zc_9 zb_9 cl_L_102 ins_X9 ini_X9 (fun v2 => ?_)
  refine r_dup (pc := 11) C dL_law_11 rfl ?_
  refine r_cI (pc := 12) C [] [.ref (x_b X + v2)] (z_KX.zero hT) (s_X9_init v2) mt_X9_init dL_law_12 ml_L_104 im_X9_init rfl rfl rfl rfl (Nat.le_of_ble_eq_true rfl) ⟨Nat.le_of_ble_eq_true rfl, Nat.le_of_ble_eq_true rfl⟩ ?_
  refine r_sta_n (pc := 15) C 2 [(0, .ref sb), (1, .ref (x_b X + v1)), (2, .ref (x_b X + v2))] dL_law_15 rfl (by decide) rfl ?_
  refine r_iconst (pc := 16) C dL_law_16 ki_1 ?_
  refine r_newa (pc := 17) C (c := 15) (by decide) dL_law_17 ac_long (fun v3 => ?_)
  refine r_sta_n (pc := 19) C 3 [(0, .ref sb), (1, .ref (x_b X + v1)), (2, .ref (x_b X + v2)), (3, .ref (x_b X + v3))] dL_law_19 rfl (by decide) rfl ?_
  refine r_iconst (pc := 20) C dL_law_20 ki_0 ?_
  refine r_sti (pc := 21) C [(0, .ref sb), (1, .ref (x_b X + v1)), (2, .ref (x_b X + v2)), (3, .ref (x_b X + v3)), (4, .int 0)] dL_law_21 (by decide) rfl ?_
  refine r_lp (pc := 23) (fun (t0 : Int32) => [(0, .ref sb), (1, .ref (x_b X + v1)), (2, .ref (x_b X + v2)), (3, .ref (x_b X + v3)), (4, .int t0)]) (fun t => ?_) 0
  exact s_L_body C hT hX hsb v1 v2 v3 t
