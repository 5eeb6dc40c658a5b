noncomputable def p_L_c19 (xs : Nat → Int32) (L : Nat) (v1 v2 v3 : Nat) (i : Int32) : zP (Int32 ⊕ Int32) := (z_bd (z_xs xs L (i + 1)) (fun v101 => (z_bd (z_xs xs L (i + 2)) (fun v102 => (z_bd (p_L_truck v1 v101 v102 v3) (fun r103 => (z_bd (z_xs xs L (i + 1)) (fun v104 => (z_bd (z_xs xs L (i + 2)) (fun v105 => (z_bd (z_cv 9 v2 (p_X9_truck v2 v104 v105)) (fun r106 => (z_bd (z_cv 9 v2 (p_X9_thrown v2)) (fun r107 => (if r107 = r103 then (if r103 = 0 then (z_bd (z_aJ 15 v3 0) (fun v108 => (if (lg_cmp v108 ((r106 : Int32).toInt64)) = 0 then (z_pu (.inl ((i + 6)))) else (z_pu (.inr 0))))) else (z_pu (.inl ((i + 6))))) else (z_pu (.inr 0)))))))))))))))))
set_option maxHeartbeats 4000000 in
set_option maxRecDepth 100000 in
theorem s_L_c19 {X : zX} (C : z_Ok X x code 7 ret 2048 84000) (hT : z_Nt X) {sb L : Nat} {xs : Nat → Int32} (hX : va_X sb L xs (x_s X) (x_s X).heap) (hsb : sb < x_b X) (v1 v2 v3 : Nat) (i : Int32) : z_Sim X 7 (z_KT X 7 (z_K0 X z_ivI) 23 (fun (t0 : Int32) => [(0, .ref sb), (1, .ref (x_b X + v1)), (2, .ref (x_b X + v2)), (3, .ref (x_b X + v3)), (4, .int t0)]) (fun _ => [])) 1149 [(0, .ref sb), (1, .ref (x_b X + v1)), (2, .ref (x_b X + v2)), (3, .ref (x_b X + v3)), (4, .int i)] [] (p_L_c19 xs L v1 v2 v3 i) := by
  unfold p_L_c19
  refine r_aload_n (pc := 1149) C dL_law_1149 rfl rfl ?_
  refine r_aload_n (pc := 1150) C dL_law_1150 rfl rfl ?_
  refine r_iload (pc := 1151) C dL_law_1151 rfl ?_
  refine r_iconst (pc := 1153) C dL_law_1153 ki_1 ?_
  refine r_iadd (pc := 1154) C dL_law_1154 ?_
  refine r_sld (pc := 1155) C hX hsb dL_law_1155 (fun v101 => ?_)
  refine r_aload_n (pc := 1156) C dL_law_1156 rfl rfl ?_
  refine r_iload (pc := 1157) C dL_law_1157 rfl ?_
  refine r_iconst (pc := 1159) C dL_law_1159 ki_2 ?_
  refine r_iadd (pc := 1160) C dL_law_1160 ?_
  refine r_sld (pc := 1161) C hX hsb dL_law_1161 (fun v102 => ?_)
  refine r_aload_n (pc := 1162) C dL_law_1162 rfl rfl ?_
  refine r_cSH (pc := 1163) C [.ref (x_b X + v1), .int v101, .int v102, .ref (x_b X + v3)] [] (z_KX.up (z_KX.zero hT)) (s_L_truck v1 v101 v102 v3) mh_L_truck dL_law_1163 ml_L_178 sm_L_truck rfl rfl rfl (Nat.le_of_ble_eq_true rfl) ⟨Nat.le_of_ble_eq_true rfl, Nat.le_of_ble_eq_true rfl⟩ (fun r103 => ?_)
  refine r_sti (pc := 1166) C [(0, .ref sb), (1, .ref (x_b X + v1)), (2, .ref (x_b X + v2)), (3, .ref (x_b X + v3)), (4, .int i), (5, .int r103)] dL_law_1166 (by decide) rfl ?_
  refine r_aload_n (pc := 1168) C dL_law_1168 rfl rfl ?_
  refine r_aload_n (pc := 1169) C dL_law_1169 rfl rfl ?_
  refine r_iload (pc := 1170) C dL_law_1170 rfl ?_
  refine r_iconst (pc := 1172) C dL_law_1172 ki_1 ?_
  refine r_iadd (pc := 1173) C dL_law_1173 ?_
  refine r_sld (pc := 1174) C hX hsb dL_law_1174 (fun v104 => ?_)
  refine r_aload_n (pc := 1175) C dL_law_1175 rfl rfl ?_
  refine r_iload (pc := 1176) C dL_law_1176 rfl ?_
  refine r_iconst (pc := 1178) C dL_law_1178 ki_2 ?_
  refine r_iadd (pc := 1179) C dL_law_1179 ?_
  refine r_sld (pc := 1180) C hX hsb dL_law_1180 (fun v105 => ?_)
  refine r_cVI (pc := 1181) C [.int v104, .int v105] [] (z_KX.up (z_KX.zero hT)) (s_X9_truck v2 v104 v105) mt_X9_truck zc_9 dL_law_1181 ml_L_180 im_X9_truck se_X9_truck rfl rfl rfl (Nat.le_of_ble_eq_true rfl) ⟨Nat.le_of_ble_eq_true rfl, Nat.le_of_ble_eq_true rfl⟩ (fun r106 => ?_)
  refine r_sti (pc := 1184) C [(0, .ref sb), (1, .ref (x_b X + v1)), (2, .ref (x_b X + v2)), (3, .ref (x_b X + v3)), (4, .int i), (5, .int r103), (6, .int r106)] dL_law_1184 (by decide) rfl ?_
  refine r_aload_n (pc := 1186) C dL_law_1186 rfl rfl ?_
  refine r_cVI (pc := 1187) C [] [] (z_KX.up (z_KX.zero hT)) (s_X9_thrown v2) mt_X9_thrown zc_9 dL_law_1187 ml_L_116 im_X9_thrown se_X9_thrown rfl rfl rfl (Nat.le_of_ble_eq_true rfl) ⟨Nat.le_of_ble_eq_true rfl, Nat.le_of_ble_eq_true rfl⟩ (fun r107 => ?_)
  refine r_iload (pc := 1190) C dL_law_1190 rfl ?_
  refine r_icmp_eq (pc := 1192) C (tgt := 1197) dL_law_1192 rfl (fun _ => ?_) (fun _ => ?_)
  · refine r_iload (pc := 1197) C dL_law_1197 rfl ?_
    refine r_if_ne (pc := 1199) C (tgt := 1214) dL_law_1199 rfl (fun _ => ?_) (fun _ => ?_)
    · refine r_aload_n (pc := 1202) C dL_law_1202 rfl rfl ?_
      refine r_iconst (pc := 1203) C dL_law_1203 ki_0 ?_
      refine r_lald (pc := 1204) C dL_law_1204 (fun v108 => ?_)
      refine r_iload (pc := 1205) C dL_law_1205 rfl ?_
      refine r_i2l (pc := 1207) C dL_law_1207 ?_
      refine r_lcmp (pc := 1208) C dL_law_1208 ?_
      refine r_if_eq (pc := 1209) C (tgt := 1214) dL_law_1209 rfl (fun _ => ?_) (fun _ => ?_)
      · refine r_goto (pc := 1214) C (tgt := 2120) dL_law_1214 rfl ?_
        refine r_inc (pc := 2120) C 6 [(0, .ref sb), (1, .ref (x_b X + v1)), (2, .ref (x_b X + v2)), (3, .ref (x_b X + v3)), (4, .int (i + 6))] dL_law_2120 rfl ki_6 (by decide) rfl ?_
        refine r_goto (pc := 2123) C (tgt := 23) dL_law_2123 rfl ?_
        refine r_sub [(0, .ref sb), (1, .ref (x_b X + v1)), (2, .ref (x_b X + v2)), (3, .ref (x_b X + v3)), (4, .int (i + 6))] rfl ?_
        exact r_br (τ := Int32) ((i + 6))
      · refine r_iconst (pc := 1212) C dL_law_1212 ki_0 ?_
        exact r_up (r_zret1 (pc := 1213) C dL_law_1213 (by decide))
    · refine r_goto (pc := 1214) C (tgt := 2120) dL_law_1214 rfl ?_
      refine r_inc (pc := 2120) C 6 [(0, .ref sb), (1, .ref (x_b X + v1)), (2, .ref (x_b X + v2)), (3, .ref (x_b X + v3)), (4, .int (i + 6))] dL_law_2120 rfl ki_6 (by decide) rfl ?_
      refine r_goto (pc := 2123) C (tgt := 23) dL_law_2123 rfl ?_
      refine r_sub [(0, .ref sb), (1, .ref (x_b X + v1)), (2, .ref (x_b X + v2)), (3, .ref (x_b X + v3)), (4, .int (i + 6))] rfl ?_
      exact r_br (τ := Int32) ((i + 6))
  · refine r_iconst (pc := 1195) C dL_law_1195 ki_0 ?_
    exact r_up (r_zret1 (pc := 1196) C dL_law_1196 (by decide))
noncomputable def p_L_c20 (xs : Nat → Int32) (L : Nat) (v1 v2 v3 : Nat) (i : Int32) : zP (Int32 ⊕ Int32) := (z_bd (z_xs xs L (i + 1)) (fun v101 => (z_bd (p_L_tourMinutes v1 v101 v3) (fun r102 => (z_bd (z_xs xs L (i + 1)) (fun v103 => (z_bd (z_cv 9 v2 (p_X9_tourMinutes v2 v103)) (fun r104 => (z_bd (z_cv 9 v2 (p_X9_thrown v2)) (fun r105 => (if r105 = r102 then (if r102 = 0 then (z_bd (z_aJ 15 v3 0) (fun v106 => (if (lg_cmp v106 ((r104 : Int32).toInt64)) = 0 then (z_pu (.inl ((i + 6)))) else (z_pu (.inr 0))))) else (z_pu (.inl ((i + 6))))) else (z_pu (.inr 0)))))))))))))
set_option maxHeartbeats 4000000 in
set_option maxRecDepth 100000 in
theorem s_L_c20 {X : zX} (C : z_Ok X x code 7 ret 2048 84000) (hT : z_Nt X) {sb L : Nat} {xs : Nat → Int32} (hX : va_X sb L xs (x_s X) (x_s X).heap) (hsb : sb < x_b X) (v1 v2 v3 : Nat) (i : Int32) : z_Sim X 7 (z_KT X 7 (z_K0 X z_ivI) 23 (fun (t0 : Int32) => [(0, .ref sb), (1, .ref (x_b X + v1)), (2, .ref (x_b X + v2)), (3, .ref (x_b X + v3)), (4, .int t0)]) (fun _ => [])) 1217 [(0, .ref sb), (1, .ref (x_b X + v1)), (2, .ref (x_b X + v2)), (3, .ref (x_b X + v3)), (4, .int i)] [] (p_L_c20 xs L v1 v2 v3 i) := by
  unfold p_L_c20
  refine r_aload_n (pc := 1217) C dL_law_1217 rfl rfl ?_
  refine r_aload_n (pc := 1218) C dL_law_1218 rfl rfl ?_
  refine r_iload (pc := 1219) C dL_law_1219 rfl ?_
  refine r_iconst (pc := 1221) C dL_law_1221 ki_1 ?_
  refine r_iadd (pc := 1222) C dL_law_1222 ?_
  refine r_sld (pc := 1223) C hX hsb dL_law_1223 (fun v101 => ?_)
  refine r_aload_n (pc := 1224) C dL_law_1224 rfl rfl ?_
  refine r_cSH (pc := 1225) C [.ref (x_b X + v1), .int v101, .ref (x_b X + v3)] [] (z_KX.up (z_KX.zero hT)) (s_L_tourMinutes v1 v101 v3) mh_L_tourMinutes dL_law_1225 ml_L_181 sm_L_tourMinutes rfl rfl rfl (Nat.le_of_ble_eq_true rfl) ⟨Nat.le_of_ble_eq_true rfl, Nat.le_of_ble_eq_true rfl⟩ (fun r102 => ?_)
  refine r_sti (pc := 1228) C [(0, .ref sb), (1, .ref (x_b X + v1)), (2, .ref (x_b X + v2)), (3, .ref (x_b X + v3)), (4, .int i), (5, .int r102)] dL_law_1228 (by decide) rfl ?_
  refine r_aload_n (pc := 1230) C dL_law_1230 rfl rfl ?_
  refine r_aload_n (pc := 1231) C dL_law_1231 rfl rfl ?_
  refine r_iload (pc := 1232) C dL_law_1232 rfl ?_
  refine r_iconst (pc := 1234) C dL_law_1234 ki_1 ?_
  refine r_iadd (pc := 1235) C dL_law_1235 ?_
  refine r_sld (pc := 1236) C hX hsb dL_law_1236 (fun v103 => ?_)
  refine r_cVI (pc := 1237) C [.int v103] [] (z_KX.up (z_KX.zero hT)) (s_X9_tourMinutes v2 v103) mt_X9_tourMinutes zc_9 dL_law_1237 ml_L_183 im_X9_tourMinutes se_X9_tourMinutes rfl rfl rfl (Nat.le_of_ble_eq_true rfl) ⟨Nat.le_of_ble_eq_true rfl, Nat.le_of_ble_eq_true rfl⟩ (fun r104 => ?_)
  refine r_sti (pc := 1240) C [(0, .ref sb), (1, .ref (x_b X + v1)), (2, .ref (x_b X + v2)), (3, .ref (x_b X + v3)), (4, .int i), (5, .int r102), (6, .int r104)] dL_law_1240 (by decide) rfl ?_
  refine r_aload_n (pc := 1242) C dL_law_1242 rfl rfl ?_
  refine r_cVI (pc := 1243) C [] [] (z_KX.up (z_KX.zero hT)) (s_X9_thrown v2) mt_X9_thrown zc_9 dL_law_1243 ml_L_116 im_X9_thrown se_X9_thrown rfl rfl rfl (Nat.le_of_ble_eq_true rfl) ⟨Nat.le_of_ble_eq_true rfl, Nat.le_of_ble_eq_true rfl⟩ (fun r105 => ?_)
  refine r_iload (pc := 1246) C dL_law_1246 rfl ?_
  refine r_icmp_eq (pc := 1248) C (tgt := 1253) dL_law_1248 rfl (fun _ => ?_) (fun _ => ?_)
  · refine r_iload (pc := 1253) C dL_law_1253 rfl ?_
    refine r_if_ne (pc := 1255) C (tgt := 1270) dL_law_1255 rfl (fun _ => ?_) (fun _ => ?_)
    · refine r_aload_n (pc := 1258) C dL_law_1258 rfl rfl ?_
      refine r_iconst (pc := 1259) C dL_law_1259 ki_0 ?_
      refine r_lald (pc := 1260) C dL_law_1260 (fun v106 => ?_)
      refine r_iload (pc := 1261) C dL_law_1261 rfl ?_
      refine r_i2l (pc := 1263) C dL_law_1263 ?_
      refine r_lcmp (pc := 1264) C dL_law_1264 ?_
      refine r_if_eq (pc := 1265) C (tgt := 1270) dL_law_1265 rfl (fun _ => ?_) (fun _ => ?_)
      · refine r_goto (pc := 1270) C (tgt := 2120) dL_law_1270 rfl ?_
        refine r_inc (pc := 2120) C 6 [(0, .ref sb), (1, .ref (x_b X + v1)), (2, .ref (x_b X + v2)), (3, .ref (x_b X + v3)), (4, .int (i + 6))] dL_law_2120 rfl ki_6 (by decide) rfl ?_
        refine r_goto (pc := 2123) C (tgt := 23) dL_law_2123 rfl ?_
        refine r_sub [(0, .ref sb), (1, .ref (x_b X + v1)), (2, .ref (x_b X + v2)), (3, .ref (x_b X + v3)), (4, .int (i + 6))] rfl ?_
        exact r_br (τ := Int32) ((i + 6))
      · refine r_iconst (pc := 1268) C dL_law_1268 ki_0 ?_
        exact r_up (r_zret1 (pc := 1269) C dL_law_1269 (by decide))
    · refine r_goto (pc := 1270) C (tgt := 2120) dL_law_1270 rfl ?_
      refine r_inc (pc := 2120) C 6 [(0, .ref sb), (1, .ref (x_b X + v1)), (2, .ref (x_b X + v2)), (3, .ref (x_b X + v3)), (4, .int (i + 6))] dL_law_2120 rfl ki_6 (by decide) rfl ?_
      refine r_goto (pc := 2123) C (tgt := 23) dL_law_2123 rfl ?_
      refine r_sub [(0, .ref sb), (1, .ref (x_b X + v1)), (2, .ref (x_b X + v2)), (3, .ref (x_b X + v3)), (4, .int (i + 6))] rfl ?_
      exact r_br (τ := Int32) ((i + 6))
  · refine r_iconst (pc := 1251) C dL_law_1251 ki_0 ?_
    exact r_up (r_zret1 (pc := 1252) C dL_law_1252 (by decide))
noncomputable def p_L_c21 (xs : Nat → Int32) (L : Nat) (v1 v2 v3 : Nat) (i : Int32) : zP (Int32 ⊕ Int32) := (z_bd (z_xs xs L (i + 1)) (fun v101 => (z_bd (z_xs xs L (i + 2)) (fun v102 => (z_bd (p_L_tourStop v1 v101 v102 v3) (fun r103 => (z_bd (z_xs xs L (i + 1)) (fun v104 => (z_bd (z_xs xs L (i + 2)) (fun v105 => (z_bd (z_cv 9 v2 (p_X9_tourStop v2 v104 v105)) (fun r106 => (z_bd (z_cv 9 v2 (p_X9_thrown v2)) (fun r107 => (if r107 = r103 then (if r103 = 0 then (z_bd (z_aJ 15 v3 0) (fun v108 => (if (lg_cmp v108 ((r106 : Int32).toInt64)) = 0 then (z_pu (.inl ((i + 6)))) else (z_pu (.inr 0))))) else (z_pu (.inl ((i + 6))))) else (z_pu (.inr 0)))))))))))))))))
set_option maxHeartbeats 4000000 in
set_option maxRecDepth 100000 in
theorem s_L_c21 {X : zX} (C : z_Ok X x code 7 ret 2048 84000) (hT : z_Nt X) {sb L : Nat} {xs : Nat → Int32} (hX : va_X sb L xs (x_s X) (x_s X).heap) (hsb : sb < x_b X) (v1 v2 v3 : Nat) (i : Int32) : z_Sim X 7 (z_KT X 7 (z_K0 X z_ivI) 23 (fun (t0 : Int32) => [(0, .ref sb), (1, .ref (x_b X + v1)), (2, .ref (x_b X + v2)), (3, .ref (x_b X + v3)), (4, .int t0)]) (fun _ => [])) 1273 [(0, .ref sb), (1, .ref (x_b X + v1)), (2, .ref (x_b X + v2)), (3, .ref (x_b X + v3)), (4, .int i)] [] (p_L_c21 xs L v1 v2 v3 i) := by
  unfold p_L_c21
  refine r_aload_n (pc := 1273) C dL_law_1273 rfl rfl ?_
  refine r_aload_n (pc := 1274) C dL_law_1274 rfl rfl ?_
  refine r_iload (pc := 1275) C dL_law_1275 rfl ?_
  refine r_iconst (pc := 1277) C dL_law_1277 ki_1 ?_
  refine r_iadd (pc := 1278) C dL_law_1278 ?_
  refine r_sld (pc := 1279) C hX hsb dL_law_1279 (fun v101 => ?_)
  refine r_aload_n (pc := 1280) C dL_law_1280 rfl rfl ?_
  refine r_iload (pc := 1281) C dL_law_1281 rfl ?_
  refine r_iconst (pc := 1283) C dL_law_1283 ki_2 ?_
  refine r_iadd (pc := 1284) C dL_law_1284 ?_
  refine r_sld (pc := 1285) C hX hsb dL_law_1285 (fun v102 => ?_)
  refine r_aload_n (pc := 1286) C dL_law_1286 rfl rfl ?_
  refine r_cSH (pc := 1287) C [.ref (x_b X + v1), .int v101, .int v102, .ref (x_b X + v3)] [] (z_KX.up (z_KX.zero hT)) (s_L_tourStop v1 v101 v102 v3) mh_L_tourStop dL_law_1287 ml_L_184 sm_L_tourStop rfl rfl rfl (Nat.le_of_ble_eq_true rfl) ⟨Nat.le_of_ble_eq_true rfl, Nat.le_of_ble_eq_true rfl⟩ (fun r103 => ?_)
  refine r_sti (pc := 1290) C [(0, .ref sb), (1, .ref (x_b X + v1)), (2, .ref (x_b X + v2)), (3, .ref (x_b X + v3)), (4, .int i), (5, .int r103)] dL_law_1290 (by decide) rfl ?_
  refine r_aload_n (pc := 1292) C dL_law_1292 rfl rfl ?_
  refine r_aload_n (pc := 1293) C dL_law_1293 rfl rfl ?_
  refine r_iload (pc := 1294) C dL_law_1294 rfl ?_
  refine r_iconst (pc := 1296) C dL_law_1296 ki_1 ?_
  refine r_iadd (pc := 1297) C dL_law_1297 ?_
  refine r_sld (pc := 1298) C hX hsb dL_law_1298 (fun v104 => ?_)
  refine r_aload_n (pc := 1299) C dL_law_1299 rfl rfl ?_
  refine r_iload (pc := 1300) C dL_law_1300 rfl ?_
  refine r_iconst (pc := 1302) C dL_law_1302 ki_2 ?_
  refine r_iadd (pc := 1303) C dL_law_1303 ?_
  refine r_sld (pc := 1304) C hX hsb dL_law_1304 (fun v105 => ?_)
  refine r_cVI (pc := 1305) C [.int v104, .int v105] [] (z_KX.up (z_KX.zero hT)) (s_X9_tourStop v2 v104 v105) mt_X9_tourStop zc_9 dL_law_1305 ml_L_186 im_X9_tourStop se_X9_tourStop rfl rfl rfl (Nat.le_of_ble_eq_true rfl) ⟨Nat.le_of_ble_eq_true rfl, Nat.le_of_ble_eq_true rfl⟩ (fun r106 => ?_)
  refine r_sti (pc := 1308) C [(0, .ref sb), (1, .ref (x_b X + v1)), (2, .ref (x_b X + v2)), (3, .ref (x_b X + v3)), (4, .int i), (5, .int r103), (6, .int r106)] dL_law_1308 (by decide) rfl ?_
  refine r_aload_n (pc := 1310) C dL_law_1310 rfl rfl ?_
  refine r_cVI (pc := 1311) C [] [] (z_KX.up (z_KX.zero hT)) (s_X9_thrown v2) mt_X9_thrown zc_9 dL_law_1311 ml_L_116 im_X9_thrown se_X9_thrown rfl rfl rfl (Nat.le_of_ble_eq_true rfl) ⟨Nat.le_of_ble_eq_true rfl, Nat.le_of_ble_eq_true rfl⟩ (fun r107 => ?_)
  refine r_iload (pc := 1314) C dL_law_1314 rfl ?_
  refine r_icmp_eq (pc := 1316) C (tgt := 1321) dL_law_1316 rfl (fun _ => ?_) (fun _ => ?_)
  · refine r_iload (pc := 1321) C dL_law_1321 rfl ?_
    refine r_if_ne (pc := 1323) C (tgt := 1338) dL_law_1323 rfl (fun _ => ?_) (fun _ => ?_)
    · refine r_aload_n (pc := 1326) C dL_law_1326 rfl rfl ?_
      refine r_iconst (pc := 1327) C dL_law_1327 ki_0 ?_
      refine r_lald (pc := 1328) C dL_law_1328 (fun v108 => ?_)
      refine r_iload (pc := 1329) C dL_law_1329 rfl ?_
      refine r_i2l (pc := 1331) C dL_law_1331 ?_
      refine r_lcmp (pc := 1332) C dL_law_1332 ?_
      refine r_if_eq (pc := 1333) C (tgt := 1338) dL_law_1333 rfl (fun _ => ?_) (fun _ => ?_)
      · refine r_goto (pc := 1338) C (tgt := 2120) dL_law_1338 rfl ?_
        refine r_inc (pc := 2120) C 6 [(0, .ref sb), (1, .ref (x_b X + v1)), (2, .ref (x_b X + v2)), (3, .ref (x_b X + v3)), (4, .int (i + 6))] dL_law_2120 rfl ki_6 (by decide) rfl ?_
        refine r_goto (pc := 2123) C (tgt := 23) dL_law_2123 rfl ?_
        refine r_sub [(0, .ref sb), (1, .ref (x_b X + v1)), (2, .ref (x_b X + v2)), (3, .ref (x_b X + v3)), (4, .int (i + 6))] rfl ?_
        exact r_br (τ := Int32) ((i + 6))
      · refine r_iconst (pc := 1336) C dL_law_1336 ki_0 ?_
        exact r_up (r_zret1 (pc := 1337) C dL_law_1337 (by decide))
    · refine r_goto (pc := 1338) C (tgt := 2120) dL_law_1338 rfl ?_
      refine r_inc (pc := 2120) C 6 [(0, .ref sb), (1, .ref (x_b X + v1)), (2, .ref (x_b X + v2)), (3, .ref (x_b X + v3)), (4, .int (i + 6))] dL_law_2120 rfl ki_6 (by decide) rfl ?_
      refine r_goto (pc := 2123) C (tgt := 23) dL_law_2123 rfl ?_
      refine r_sub [(0, .ref sb), (1, .ref (x_b X + v1)), (2, .ref (x_b X + v2)), (3, .ref (x_b X + v3)), (4, .int (i + 6))] rfl ?_
      exact r_br (τ := Int32) ((i + 6))
  · refine r_iconst (pc := 1319) C dL_law_1319 ki_0 ?_
    exact r_up (r_zret1 (pc := 1320) C dL_law_1320 (by decide))
noncomputable def p_L_c22 (xs : Nat → Int32) (L : Nat) (v1 v2 v3 : Nat) (i : Int32) : zP (Int32 ⊕ Int32) := (z_bd (z_xs xs L (i + 1)) (fun v101 => (z_bd (p_L_total v1 v101 v3) (fun r102 => (z_bd (z_xs xs L (i + 1)) (fun v103 => (z_bd (z_cv 9 v2 (p_X9_total v2 v103)) (fun r104 => (z_bd (z_cv 9 v2 (p_X9_thrown v2)) (fun r105 => (if r105 = r102 then (if r102 = 0 then (z_bd (z_aJ 15 v3 0) (fun v106 => (if (lg_cmp v106 ((r104 : Int32).toInt64)) = 0 then (z_pu (.inl ((i + 6)))) else (z_pu (.inr 0))))) else (z_pu (.inl ((i + 6))))) else (z_pu (.inr 0)))))))))))))
set_option maxHeartbeats 4000000 in
set_option maxRecDepth 100000 in
theorem s_L_c22 {X : zX} (C : z_Ok X x code 7 ret 2048 84000) (hT : z_Nt X) {sb L : Nat} {xs : Nat → Int32} (hX : va_X sb L xs (x_s X) (x_s X).heap) (hsb : sb < x_b X) (v1 v2 v3 : Nat) (i : Int32) : z_Sim X 7 (z_KT X 7 (z_K0 X z_ivI) 23 (fun (t0 : Int32) => [(0, .ref sb), (1, .ref (x_b X + v1)), (2, .ref (x_b X + v2)), (3, .ref (x_b X + v3)), (4, .int t0)]) (fun _ => [])) 1341 [(0, .ref sb), (1, .ref (x_b X + v1)), (2, .ref (x_b X + v2)), (3, .ref (x_b X + v3)), (4, .int i)] [] (p_L_c22 xs L v1 v2 v3 i) := by
  unfold p_L_c22
  refine r_aload_n (pc := 1341) C dL_law_1341 rfl rfl ?_
  refine r_aload_n (pc := 1342) C dL_law_1342 rfl rfl ?_
  refine r_iload (pc := 1343) C dL_law_1343 rfl ?_
  refine r_iconst (pc := 1345) C dL_law_1345 ki_1 ?_
  refine r_iadd (pc := 1346) C dL_law_1346 ?_
  refine r_sld (pc := 1347) C hX hsb dL_law_1347 (fun v101 => ?_)
  refine r_aload_n (pc := 1348) C dL_law_1348 rfl rfl ?_
  refine r_cSH (pc := 1349) C [.ref (x_b X + v1), .int v101, .ref (x_b X + v3)] [] (z_KX.up (z_KX.zero hT)) (s_L_total v1 v101 v3) mh_L_total dL_law_1349 ml_L_187 sm_L_total rfl rfl rfl (Nat.le_of_ble_eq_true rfl) ⟨Nat.le_of_ble_eq_true rfl, Nat.le_of_ble_eq_true rfl⟩ (fun r102 => ?_)
  refine r_sti (pc := 1352) C [(0, .ref sb), (1, .ref (x_b X + v1)), (2, .ref (x_b X + v2)), (3, .ref (x_b X + v3)), (4, .int i), (5, .int r102)] dL_law_1352 (by decide) rfl ?_
  refine r_aload_n (pc := 1354) C dL_law_1354 rfl rfl ?_
  refine r_aload_n (pc := 1355) C dL_law_1355 rfl rfl ?_
  refine r_iload (pc := 1356) C dL_law_1356 rfl ?_
  refine r_iconst (pc := 1358) C dL_law_1358 ki_1 ?_
  refine r_iadd (pc := 1359) C dL_law_1359 ?_
  refine r_sld (pc := 1360) C hX hsb dL_law_1360 (fun v103 => ?_)
  refine r_cVI (pc := 1361) C [.int v103] [] (z_KX.up (z_KX.zero hT)) (s_X9_total v2 v103) mt_X9_total zc_9 dL_law_1361 ml_L_189 im_X9_total se_X9_total rfl rfl rfl (Nat.le_of_ble_eq_true rfl) ⟨Nat.le_of_ble_eq_true rfl, Nat.le_of_ble_eq_true rfl⟩ (fun r104 => ?_)
  refine r_sti (pc := 1364) C [(0, .ref sb), (1, .ref (x_b X + v1)), (2, .ref (x_b X + v2)), (3, .ref (x_b X + v3)), (4, .int i), (5, .int r102), (6, .int r104)] dL_law_1364 (by decide) rfl ?_
  refine r_aload_n (pc := 1366) C dL_law_1366 rfl rfl ?_
  refine r_cVI (pc := 1367) C [] [] (z_KX.up (z_KX.zero hT)) (s_X9_thrown v2) mt_X9_thrown zc_9 dL_law_1367 ml_L_116 im_X9_thrown se_X9_thrown rfl rfl rfl (Nat.le_of_ble_eq_true rfl) ⟨Nat.le_of_ble_eq_true rfl, Nat.le_of_ble_eq_true rfl⟩ (fun r105 => ?_)
  refine r_iload (pc := 1370) C dL_law_1370 rfl ?_
  refine r_icmp_eq (pc := 1372) C (tgt := 1377) dL_law_1372 rfl (fun _ => ?_) (fun _ => ?_)
  · refine r_iload (pc := 1377) C dL_law_1377 rfl ?_
    refine r_if_ne (pc := 1379) C (tgt := 1394) dL_law_1379 rfl (fun _ => ?_) (fun _ => ?_)
    · refine r_aload_n (pc := 1382) C dL_law_1382 rfl rfl ?_
      refine r_iconst (pc := 1383) C dL_law_1383 ki_0 ?_
      refine r_lald (pc := 1384) C dL_law_1384 (fun v106 => ?_)
      refine r_iload (pc := 1385) C dL_law_1385 rfl ?_
      refine r_i2l (pc := 1387) C dL_law_1387 ?_
      refine r_lcmp (pc := 1388) C dL_law_1388 ?_
      refine r_if_eq (pc := 1389) C (tgt := 1394) dL_law_1389 rfl (fun _ => ?_) (fun _ => ?_)
      · refine r_goto (pc := 1394) C (tgt := 2120) dL_law_1394 rfl ?_
        refine r_inc (pc := 2120) C 6 [(0, .ref sb), (1, .ref (x_b X + v1)), (2, .ref (x_b X + v2)), (3, .ref (x_b X + v3)), (4, .int (i + 6))] dL_law_2120 rfl ki_6 (by decide) rfl ?_
        refine r_goto (pc := 2123) C (tgt := 23) dL_law_2123 rfl ?_
        refine r_sub [(0, .ref sb), (1, .ref (x_b X + v1)), (2, .ref (x_b X + v2)), (3, .ref (x_b X + v3)), (4, .int (i + 6))] rfl ?_
        exact r_br (τ := Int32) ((i + 6))
      · refine r_iconst (pc := 1392) C dL_law_1392 ki_0 ?_
        exact r_up (r_zret1 (pc := 1393) C dL_law_1393 (by decide))
    · refine r_goto (pc := 1394) C (tgt := 2120) dL_law_1394 rfl ?_
      refine r_inc (pc := 2120) C 6 [(0, .ref sb), (1, .ref (x_b X + v1)), (2, .ref (x_b X + v2)), (3, .ref (x_b X + v3)), (4, .int (i + 6))] dL_law_2120 rfl ki_6 (by decide) rfl ?_
      refine r_goto (pc := 2123) C (tgt := 23) dL_law_2123 rfl ?_
      refine r_sub [(0, .ref sb), (1, .ref (x_b X + v1)), (2, .ref (x_b X + v2)), (3, .ref (x_b X + v3)), (4, .int (i + 6))] rfl ?_
      exact r_br (τ := Int32) ((i + 6))
  · refine r_iconst (pc := 1375) C dL_law_1375 ki_0 ?_
    exact r_up (r_zret1 (pc := 1376) C dL_law_1376 (by decide))
noncomputable def p_L_c23 (xs : Nat → Int32) (L : Nat) (v1 v2 v3 : Nat) (i : Int32) : zP (Int32 ⊕ Int32) := (z_bd (z_xs xs L (i + 1)) (fun v101 => (z_bd (z_xs xs L (i + 2)) (fun v102 => (z_bd (p_L_forecast v1 v101 v102 v3) (fun r103 => (z_bd (z_xs xs L (i + 1)) (fun v104 => (z_bd (z_xs xs L (i + 2)) (fun v105 => (z_bd (z_cv 9 v2 (p_X9_forecast v2 v104 v105)) (fun r106 => (z_bd (z_cv 9 v2 (p_X9_thrown v2)) (fun r107 => (if r107 = r103 then (if r103 = 0 then (z_bd (z_aJ 15 v3 0) (fun v108 => (if (lg_cmp v108 ((r106 : Int32).toInt64)) = 0 then (z_pu (.inl ((i + 6)))) else (z_pu (.inr 0))))) else (z_pu (.inl ((i + 6))))) else (z_pu (.inr 0)))))))))))))))))
set_option maxHeartbeats 4000000 in
set_option maxRecDepth 100000 in
theorem s_L_c23 {X : zX} (C : z_Ok X x code 7 ret 2048 84000) (hT : z_Nt X) {sb L : Nat} {xs : Nat → Int32} (hX : va_X sb L xs (x_s X) (x_s X).heap) (hsb : sb < x_b X) (v1 v2 v3 : Nat) (i : Int32) : z_Sim X 7 (z_KT X 7 (z_K0 X z_ivI) 23 (fun (t0 : Int32) => [(0, .ref sb), (1, .ref (x_b X + v1)), (2, .ref (x_b X + v2)), (3, .ref (x_b X + v3)), (4, .int t0)]) (fun _ => [])) 1397 [(0, .ref sb), (1, .ref (x_b X + v1)), (2, .ref (x_b X + v2)), (3, .ref (x_b X + v3)), (4, .int i)] [] (p_L_c23 xs L v1 v2 v3 i) := by
  unfold p_L_c23
  refine r_aload_n (pc := 1397) C dL_law_1397 rfl rfl ?_
  refine r_aload_n (pc := 1398) C dL_law_1398 rfl rfl ?_
  refine r_iload (pc := 1399) C dL_law_1399 rfl ?_
  refine r_iconst (pc := 1401) C dL_law_1401 ki_1 ?_
  refine r_iadd (pc := 1402) C dL_law_1402 ?_
  refine r_sld (pc := 1403) C hX hsb dL_law_1403 (fun v101 => ?_)
  refine r_aload_n (pc := 1404) C dL_law_1404 rfl rfl ?_
  refine r_iload (pc := 1405) C dL_law_1405 rfl ?_
  refine r_iconst (pc := 1407) C dL_law_1407 ki_2 ?_
  refine r_iadd (pc := 1408) C dL_law_1408 ?_
  refine r_sld (pc := 1409) C hX hsb dL_law_1409 (fun v102 => ?_)
  refine r_aload_n (pc := 1410) C dL_law_1410 rfl rfl ?_
  refine r_cSH (pc := 1411) C [.ref (x_b X + v1), .int v101, .int v102, .ref (x_b X + v3)] [] (z_KX.up (z_KX.zero hT)) (s_L_forecast v1 v101 v102 v3) mh_L_forecast dL_law_1411 ml_L_190 sm_L_forecast rfl rfl rfl (Nat.le_of_ble_eq_true rfl) ⟨Nat.le_of_ble_eq_true rfl, Nat.le_of_ble_eq_true rfl⟩ (fun r103 => ?_)
  refine r_sti (pc := 1414) C [(0, .ref sb), (1, .ref (x_b X + v1)), (2, .ref (x_b X + v2)), (3, .ref (x_b X + v3)), (4, .int i), (5, .int r103)] dL_law_1414 (by decide) rfl ?_
  refine r_aload_n (pc := 1416) C dL_law_1416 rfl rfl ?_
  refine r_aload_n (pc := 1417) C dL_law_1417 rfl rfl ?_
  refine r_iload (pc := 1418) C dL_law_1418 rfl ?_
  refine r_iconst (pc := 1420) C dL_law_1420 ki_1 ?_
  refine r_iadd (pc := 1421) C dL_law_1421 ?_
  refine r_sld (pc := 1422) C hX hsb dL_law_1422 (fun v104 => ?_)
  refine r_aload_n (pc := 1423) C dL_law_1423 rfl rfl ?_
  refine r_iload (pc := 1424) C dL_law_1424 rfl ?_
  refine r_iconst (pc := 1426) C dL_law_1426 ki_2 ?_
  refine r_iadd (pc := 1427) C dL_law_1427 ?_
  refine r_sld (pc := 1428) C hX hsb dL_law_1428 (fun v105 => ?_)
  refine r_cVI (pc := 1429) C [.int v104, .int v105] [] (z_KX.up (z_KX.zero hT)) (s_X9_forecast v2 v104 v105) mt_X9_forecast zc_9 dL_law_1429 ml_L_192 im_X9_forecast se_X9_forecast rfl rfl rfl (Nat.le_of_ble_eq_true rfl) ⟨Nat.le_of_ble_eq_true rfl, Nat.le_of_ble_eq_true rfl⟩ (fun r106 => ?_)
  refine r_sti (pc := 1432) C [(0, .ref sb), (1, .ref (x_b X + v1)), (2, .ref (x_b X + v2)), (3, .ref (x_b X + v3)), (4, .int i), (5, .int r103), (6, .int r106)] dL_law_1432 (by decide) rfl ?_
  refine r_aload_n (pc := 1434) C dL_law_1434 rfl rfl ?_
  refine r_cVI (pc := 1435) C [] [] (z_KX.up (z_KX.zero hT)) (s_X9_thrown v2) mt_X9_thrown zc_9 dL_law_1435 ml_L_116 im_X9_thrown se_X9_thrown rfl rfl rfl (Nat.le_of_ble_eq_true rfl) ⟨Nat.le_of_ble_eq_true rfl, Nat.le_of_ble_eq_true rfl⟩ (fun r107 => ?_)
  refine r_iload (pc := 1438) C dL_law_1438 rfl ?_
  refine r_icmp_eq (pc := 1440) C (tgt := 1445) dL_law_1440 rfl (fun _ => ?_) (fun _ => ?_)
  · refine r_iload (pc := 1445) C dL_law_1445 rfl ?_
    refine r_if_ne (pc := 1447) C (tgt := 1462) dL_law_1447 rfl (fun _ => ?_) (fun _ => ?_)
    · refine r_aload_n (pc := 1450) C dL_law_1450 rfl rfl ?_
      refine r_iconst (pc := 1451) C dL_law_1451 ki_0 ?_
      refine r_lald (pc := 1452) C dL_law_1452 (fun v108 => ?_)
      refine r_iload (pc := 1453) C dL_law_1453 rfl ?_
      refine r_i2l (pc := 1455) C dL_law_1455 ?_
      refine r_lcmp (pc := 1456) C dL_law_1456 ?_
      refine r_if_eq (pc := 1457) C (tgt := 1462) dL_law_1457 rfl (fun _ => ?_) (fun _ => ?_)
      · refine r_goto (pc := 1462) C (tgt := 2120) dL_law_1462 rfl ?_
        refine r_inc (pc := 2120) C 6 [(0, .ref sb), (1, .ref (x_b X + v1)), (2, .ref (x_b X + v2)), (3, .ref (x_b X + v3)), (4, .int (i + 6))] dL_law_2120 rfl ki_6 (by decide) rfl ?_
        refine r_goto (pc := 2123) C (tgt := 23) dL_law_2123 rfl ?_
        refine r_sub [(0, .ref sb), (1, .ref (x_b X + v1)), (2, .ref (x_b X + v2)), (3, .ref (x_b X + v3)), (4, .int (i + 6))] rfl ?_
        exact r_br (τ := Int32) ((i + 6))
      · refine r_iconst (pc := 1460) C dL_law_1460 ki_0 ?_
        exact r_up (r_zret1 (pc := 1461) C dL_law_1461 (by decide))
    · refine r_goto (pc := 1462) C (tgt := 2120) dL_law_1462 rfl ?_
      refine r_inc (pc := 2120) C 6 [(0, .ref sb), (1, .ref (x_b X + v1)), (2, .ref (x_b X + v2)), (3, .ref (x_b X + v3)), (4, .int (i + 6))] dL_law_2120 rfl ki_6 (by decide) rfl ?_
      refine r_goto (pc := 2123) C (tgt := 23) dL_law_2123 rfl ?_
      refine r_sub [(0, .ref sb), (1, .ref (x_b X + v1)), (2, .ref (x_b X + v2)), (3, .ref (x_b X + v3)), (4, .int (i + 6))] rfl ?_
      exact r_br (τ := Int32) ((i + 6))
  · refine r_iconst (pc := 1443) C dL_law_1443 ki_0 ?_
    exact r_up (r_zret1 (pc := 1444) C dL_law_1444 (by decide))
noncomputable def p_L_c24 (xs : Nat → Int32) (L : Nat) (v1 v2 v3 : Nat) (i : Int32) : zP (Int32 ⊕ Int32) := (z_bd (z_xs xs L (i + 1)) (fun v101 => (z_bd (z_xs xs L (i + 2)) (fun v102 => (z_jn (τ := Int32) (if v102 = 0 then (z_pu (.inl 0)) else (z_pu (.inl 1))) (fun t103 => (z_bd (p_L_runsOut v1 v101 t103 v3) (fun r104 => (z_bd (z_xs xs L (i + 1)) (fun v105 => (z_bd (z_xs xs L (i + 2)) (fun v106 => (z_jn (τ := Int32) (if v106 = 0 then (z_pu (.inl 0)) else (z_pu (.inl 1))) (fun t107 => (z_bd (z_cv 9 v2 (p_X9_runsOut v2 v105 t107)) (fun r108 => (z_bd (z_cv 9 v2 (p_X9_thrown v2)) (fun r109 => (if r109 = r104 then (if r104 = 0 then (z_bd (z_aJ 15 v3 0) (fun v110 => (if (lg_cmp v110 ((r108 : Int32).toInt64)) = 0 then (z_pu (.inl ((i + 6)))) else (z_pu (.inr 0))))) else (z_pu (.inl ((i + 6))))) else (z_pu (.inr 0)))))))))))))))))))))
set_option maxHeartbeats 4000000 in
set_option maxRecDepth 100000 in
theorem s_L_c24 {X : zX} (C : z_Ok X x code 7 ret 2048 84000) (hT : z_Nt X) {sb L : Nat} {xs : Nat → Int32} (hX : va_X sb L xs (x_s X) (x_s X).heap) (hsb : sb < x_b X) (v1 v2 v3 : Nat) (i : Int32) : z_Sim X 7 (z_KT X 7 (z_K0 X z_ivI) 23 (fun (t0 : Int32) => [(0, .ref sb), (1, .ref (x_b X + v1)), (2, .ref (x_b X + v2)), (3, .ref (x_b X + v3)), (4, .int t0)]) (fun _ => [])) 1465 [(0, .ref sb), (1, .ref (x_b X + v1)), (2, .ref (x_b X + v2)), (3, .ref (x_b X + v3)), (4, .int i)] [] (p_L_c24 xs L v1 v2 v3 i) := by
  unfold p_L_c24
  refine r_aload_n (pc := 1465) C dL_law_1465 rfl rfl ?_
  refine r_aload_n (pc := 1466) C dL_law_1466 rfl rfl ?_
  refine r_iload (pc := 1467) C dL_law_1467 rfl ?_
  refine r_iconst (pc := 1469) C dL_law_1469 ki_1 ?_
  refine r_iadd (pc := 1470) C dL_law_1470 ?_
  refine r_sld (pc := 1471) C hX hsb dL_law_1471 (fun v101 => ?_)
  refine r_aload_n (pc := 1472) C dL_law_1472 rfl rfl ?_
  refine r_iload (pc := 1473) C dL_law_1473 rfl ?_
  refine r_iconst (pc := 1475) C dL_law_1475 ki_2 ?_
  refine r_iadd (pc := 1476) C dL_law_1476 ?_
  refine r_sld (pc := 1477) C hX hsb dL_law_1477 (fun v102 => ?_)
  refine r_jn 1486 (fun (t103 : Int32) => [(0, .ref sb), (1, .ref (x_b X + v1)), (2, .ref (x_b X + v2)), (3, .ref (x_b X + v3)), (4, .int i)]) (fun (t103 : Int32) => [.int t103, .int v101, .ref (x_b X + v1)]) (fun t103 => ?_) ?_
  · refine r_aload_n (pc := 1486) C dL_law_1486 rfl rfl ?_
    refine r_cSH (pc := 1487) C [.ref (x_b X + v1), .int v101, .int t103, .ref (x_b X + v3)] [] (z_KX.up (z_KX.zero hT)) (s_L_runsOut v1 v101 t103 v3) mh_L_runsOut dL_law_1487 ml_L_193 sm_L_runsOut rfl rfl rfl (Nat.le_of_ble_eq_true rfl) ⟨Nat.le_of_ble_eq_true rfl, Nat.le_of_ble_eq_true rfl⟩ (fun r104 => ?_)
    refine r_sti (pc := 1490) C [(0, .ref sb), (1, .ref (x_b X + v1)), (2, .ref (x_b X + v2)), (3, .ref (x_b X + v3)), (4, .int i), (5, .int r104)] dL_law_1490 (by decide) rfl ?_
    refine r_aload_n (pc := 1492) C dL_law_1492 rfl rfl ?_
    refine r_aload_n (pc := 1493) C dL_law_1493 rfl rfl ?_
    refine r_iload (pc := 1494) C dL_law_1494 rfl ?_
    refine r_iconst (pc := 1496) C dL_law_1496 ki_1 ?_
    refine r_iadd (pc := 1497) C dL_law_1497 ?_
    refine r_sld (pc := 1498) C hX hsb dL_law_1498 (fun v105 => ?_)
    refine r_aload_n (pc := 1499) C dL_law_1499 rfl rfl ?_
    refine r_iload (pc := 1500) C dL_law_1500 rfl ?_
    refine r_iconst (pc := 1502) C dL_law_1502 ki_2 ?_
    refine r_iadd (pc := 1503) C dL_law_1503 ?_
    refine r_sld (pc := 1504) C hX hsb dL_law_1504 (fun v106 => ?_)
    refine r_jn 1513 (fun (t107 : Int32) => [(0, .ref sb), (1, .ref (x_b X + v1)), (2, .ref (x_b X + v2)), (3, .ref (x_b X + v3)), (4, .int i), (5, .int r104)]) (fun (t107 : Int32) => [.int t107, .int v105, .ref (x_b X + v2)]) (fun t107 => ?_) ?_
    · refine r_cVI (pc := 1513) C [.int v105, .int t107] [] (z_KX.up (z_KX.zero hT)) (s_X9_runsOut v2 v105 t107) mt_X9_runsOut zc_9 dL_law_1513 ml_L_195 im_X9_runsOut se_X9_runsOut rfl rfl rfl (Nat.le_of_ble_eq_true rfl) ⟨Nat.le_of_ble_eq_true rfl, Nat.le_of_ble_eq_true rfl⟩ (fun r108 => ?_)
      refine r_sti (pc := 1516) C [(0, .ref sb), (1, .ref (x_b X + v1)), (2, .ref (x_b X + v2)), (3, .ref (x_b X + v3)), (4, .int i), (5, .int r104), (6, .int r108)] dL_law_1516 (by decide) rfl ?_
      refine r_aload_n (pc := 1518) C dL_law_1518 rfl rfl ?_
      refine r_cVI (pc := 1519) C [] [] (z_KX.up (z_KX.zero hT)) (s_X9_thrown v2) mt_X9_thrown zc_9 dL_law_1519 ml_L_116 im_X9_thrown se_X9_thrown rfl rfl rfl (Nat.le_of_ble_eq_true rfl) ⟨Nat.le_of_ble_eq_true rfl, Nat.le_of_ble_eq_true rfl⟩ (fun r109 => ?_)
      refine r_iload (pc := 1522) C dL_law_1522 rfl ?_
      refine r_icmp_eq (pc := 1524) C (tgt := 1529) dL_law_1524 rfl (fun _ => ?_) (fun _ => ?_)
      · refine r_iload (pc := 1529) C dL_law_1529 rfl ?_
        refine r_if_ne (pc := 1531) C (tgt := 1546) dL_law_1531 rfl (fun _ => ?_) (fun _ => ?_)
        · refine r_aload_n (pc := 1534) C dL_law_1534 rfl rfl ?_
          refine r_iconst (pc := 1535) C dL_law_1535 ki_0 ?_
          refine r_lald (pc := 1536) C dL_law_1536 (fun v110 => ?_)
          refine r_iload (pc := 1537) C dL_law_1537 rfl ?_
          refine r_i2l (pc := 1539) C dL_law_1539 ?_
          refine r_lcmp (pc := 1540) C dL_law_1540 ?_
          refine r_if_eq (pc := 1541) C (tgt := 1546) dL_law_1541 rfl (fun _ => ?_) (fun _ => ?_)
          · refine r_goto (pc := 1546) C (tgt := 2120) dL_law_1546 rfl ?_
            refine r_inc (pc := 2120) C 6 [(0, .ref sb), (1, .ref (x_b X + v1)), (2, .ref (x_b X + v2)), (3, .ref (x_b X + v3)), (4, .int (i + 6))] dL_law_2120 rfl ki_6 (by decide) rfl ?_
            refine r_goto (pc := 2123) C (tgt := 23) dL_law_2123 rfl ?_
            refine r_sub [(0, .ref sb), (1, .ref (x_b X + v1)), (2, .ref (x_b X + v2)), (3, .ref (x_b X + v3)), (4, .int (i + 6))] rfl ?_
            exact r_br (τ := Int32) ((i + 6))
          · refine r_iconst (pc := 1544) C dL_law_1544 ki_0 ?_
            exact r_up (r_zret1 (pc := 1545) C dL_law_1545 (by decide))
        · refine r_goto (pc := 1546) C (tgt := 2120) dL_law_1546 rfl ?_
          refine r_inc (pc := 2120) C 6 [(0, .ref sb), (1, .ref (x_b X + v1)), (2, .ref (x_b X + v2)), (3, .ref (x_b X + v3)), (4, .int (i + 6))] dL_law_2120 rfl ki_6 (by decide) rfl ?_
          refine r_goto (pc := 2123) C (tgt := 23) dL_law_2123 rfl ?_
          refine r_sub [(0, .ref sb), (1, .ref (x_b X + v1)), (2, .ref (x_b X + v2)), (3, .ref (x_b X + v3)), (4, .int (i + 6))] rfl ?_
          exact r_br (τ := Int32) ((i + 6))
      · refine r_iconst (pc := 1527) C dL_law_1527 ki_0 ?_
        exact r_up (r_zret1 (pc := 1528) C dL_law_1528 (by decide))
    · refine r_if_eq (pc := 1505) C (tgt := 1512) dL_law_1505 rfl (fun _ => ?_) (fun _ => ?_)
      · refine r_iconst (pc := 1512) C dL_law_1512 ki_0 ?_
        refine r_sub [(0, .ref sb), (1, .ref (x_b X + v1)), (2, .ref (x_b X + v2)), (3, .ref (x_b X + v3)), (4, .int i), (5, .int r104)] rfl ?_
        exact r_br (τ := Int32) 0
      · refine r_iconst (pc := 1508) C dL_law_1508 ki_1 ?_
        refine r_goto (pc := 1509) C (tgt := 1513) dL_law_1509 rfl ?_
        refine r_sub [(0, .ref sb), (1, .ref (x_b X + v1)), (2, .ref (x_b X + v2)), (3, .ref (x_b X + v3)), (4, .int i), (5, .int r104)] rfl ?_
        exact r_br (τ := Int32) 1
  · refine r_if_eq (pc := 1478) C (tgt := 1485) dL_law_1478 rfl (fun _ => ?_) (fun _ => ?_)
    · refine r_iconst (pc := 1485) C dL_law_1485 ki_0 ?_
      refine r_sub [(0, .ref sb), (1, .ref (x_b X + v1)), (2, .ref (x_b X + v2)), (3, .ref (x_b X + v3)), (4, .int i)] rfl ?_
      exact r_br (τ := Int32) 0
    · refine r_iconst (pc := 1481) C dL_law_1481 ki_1 ?_
      refine r_goto (pc := 1482) C (tgt := 1486) dL_law_1482 rfl ?_
      refine r_sub [(0, .ref sb), (1, .ref (x_b X + v1)), (2, .ref (x_b X + v2)), (3, .ref (x_b X + v3)), (4, .int i)] rfl ?_
      exact r_br (τ := Int32) 1
noncomputable def p_L_c25 (xs : Nat → Int32) (L : Nat) (v1 v2 v3 : Nat) (i : Int32) : zP (Int32 ⊕ Int32) := (z_bd (z_xs xs L (i + 1)) (fun v101 => (z_bd (p_L_pass v1 v101 v3) (fun r102 => (z_bd (z_xs xs L (i + 1)) (fun v103 => (z_bd (z_cv 9 v2 (p_X9_pass v2 v103)) (fun r104 => (z_bd (z_cv 9 v2 (p_X9_thrown v2)) (fun r105 => (if r105 = r102 then (if r102 = 0 then (z_bd (z_aJ 15 v3 0) (fun v106 => (if (lg_cmp v106 ((r104 : Int32).toInt64)) = 0 then (z_pu (.inl ((i + 6)))) else (z_pu (.inr 0))))) else (z_pu (.inl ((i + 6))))) else (z_pu (.inr 0)))))))))))))
set_option maxHeartbeats 4000000 in
set_option maxRecDepth 100000 in
theorem s_L_c25 {X : zX} (C : z_Ok X x code 7 ret 2048 84000) (hT : z_Nt X) {sb L : Nat} {xs : Nat → Int32} (hX : va_X sb L xs (x_s X) (x_s X).heap) (hsb : sb < x_b X) (v1 v2 v3 : Nat) (i : Int32) : z_Sim X 7 (z_KT X 7 (z_K0 X z_ivI) 23 (fun (t0 : Int32) => [(0, .ref sb), (1, .ref (x_b X + v1)), (2, .ref (x_b X + v2)), (3, .ref (x_b X + v3)), (4, .int t0)]) (fun _ => [])) 1549 [(0, .ref sb), (1, .ref (x_b X + v1)), (2, .ref (x_b X + v2)), (3, .ref (x_b X + v3)), (4, .int i)] [] (p_L_c25 xs L v1 v2 v3 i) := by
  unfold p_L_c25
  refine r_aload_n (pc := 1549) C dL_law_1549 rfl rfl ?_
  refine r_aload_n (pc := 1550) C dL_law_1550 rfl rfl ?_
  refine r_iload (pc := 1551) C dL_law_1551 rfl ?_
  refine r_iconst (pc := 1553) C dL_law_1553 ki_1 ?_
  refine r_iadd (pc := 1554) C dL_law_1554 ?_
  refine r_sld (pc := 1555) C hX hsb dL_law_1555 (fun v101 => ?_)
  refine r_aload_n (pc := 1556) C dL_law_1556 rfl rfl ?_
  refine r_cSH (pc := 1557) C [.ref (x_b X + v1), .int v101, .ref (x_b X + v3)] [] (z_KX.up (z_KX.zero hT)) (s_L_pass v1 v101 v3) mh_L_pass dL_law_1557 ml_L_196 sm_L_pass rfl rfl rfl (Nat.le_of_ble_eq_true rfl) ⟨Nat.le_of_ble_eq_true rfl, Nat.le_of_ble_eq_true rfl⟩ (fun r102 => ?_)
  refine r_sti (pc := 1560) C [(0, .ref sb), (1, .ref (x_b X + v1)), (2, .ref (x_b X + v2)), (3, .ref (x_b X + v3)), (4, .int i), (5, .int r102)] dL_law_1560 (by decide) rfl ?_
  refine r_aload_n (pc := 1562) C dL_law_1562 rfl rfl ?_
  refine r_aload_n (pc := 1563) C dL_law_1563 rfl rfl ?_
  refine r_iload (pc := 1564) C dL_law_1564 rfl ?_
  refine r_iconst (pc := 1566) C dL_law_1566 ki_1 ?_
  refine r_iadd (pc := 1567) C dL_law_1567 ?_
  refine r_sld (pc := 1568) C hX hsb dL_law_1568 (fun v103 => ?_)
  refine r_cVI (pc := 1569) C [.int v103] [] (z_KX.up (z_KX.zero hT)) (s_X9_pass v2 v103) mt_X9_pass zc_9 dL_law_1569 ml_L_198 im_X9_pass se_X9_pass rfl rfl rfl (Nat.le_of_ble_eq_true rfl) ⟨Nat.le_of_ble_eq_true rfl, Nat.le_of_ble_eq_true rfl⟩ (fun r104 => ?_)
  refine r_sti (pc := 1572) C [(0, .ref sb), (1, .ref (x_b X + v1)), (2, .ref (x_b X + v2)), (3, .ref (x_b X + v3)), (4, .int i), (5, .int r102), (6, .int r104)] dL_law_1572 (by decide) rfl ?_
  refine r_aload_n (pc := 1574) C dL_law_1574 rfl rfl ?_
  refine r_cVI (pc := 1575) C [] [] (z_KX.up (z_KX.zero hT)) (s_X9_thrown v2) mt_X9_thrown zc_9 dL_law_1575 ml_L_116 im_X9_thrown se_X9_thrown rfl rfl rfl (Nat.le_of_ble_eq_true rfl) ⟨Nat.le_of_ble_eq_true rfl, Nat.le_of_ble_eq_true rfl⟩ (fun r105 => ?_)
  refine r_iload (pc := 1578) C dL_law_1578 rfl ?_
  refine r_icmp_eq (pc := 1580) C (tgt := 1585) dL_law_1580 rfl (fun _ => ?_) (fun _ => ?_)
  · refine r_iload (pc := 1585) C dL_law_1585 rfl ?_
    refine r_if_ne (pc := 1587) C (tgt := 1602) dL_law_1587 rfl (fun _ => ?_) (fun _ => ?_)
    · refine r_aload_n (pc := 1590) C dL_law_1590 rfl rfl ?_
      refine r_iconst (pc := 1591) C dL_law_1591 ki_0 ?_
      refine r_lald (pc := 1592) C dL_law_1592 (fun v106 => ?_)
      refine r_iload (pc := 1593) C dL_law_1593 rfl ?_
      refine r_i2l (pc := 1595) C dL_law_1595 ?_
      refine r_lcmp (pc := 1596) C dL_law_1596 ?_
      refine r_if_eq (pc := 1597) C (tgt := 1602) dL_law_1597 rfl (fun _ => ?_) (fun _ => ?_)
      · refine r_goto (pc := 1602) C (tgt := 2120) dL_law_1602 rfl ?_
        refine r_inc (pc := 2120) C 6 [(0, .ref sb), (1, .ref (x_b X + v1)), (2, .ref (x_b X + v2)), (3, .ref (x_b X + v3)), (4, .int (i + 6))] dL_law_2120 rfl ki_6 (by decide) rfl ?_
        refine r_goto (pc := 2123) C (tgt := 23) dL_law_2123 rfl ?_
        refine r_sub [(0, .ref sb), (1, .ref (x_b X + v1)), (2, .ref (x_b X + v2)), (3, .ref (x_b X + v3)), (4, .int (i + 6))] rfl ?_
        exact r_br (τ := Int32) ((i + 6))
      · refine r_iconst (pc := 1600) C dL_law_1600 ki_0 ?_
        exact r_up (r_zret1 (pc := 1601) C dL_law_1601 (by decide))
    · refine r_goto (pc := 1602) C (tgt := 2120) dL_law_1602 rfl ?_
      refine r_inc (pc := 2120) C 6 [(0, .ref sb), (1, .ref (x_b X + v1)), (2, .ref (x_b X + v2)), (3, .ref (x_b X + v3)), (4, .int (i + 6))] dL_law_2120 rfl ki_6 (by decide) rfl ?_
      refine r_goto (pc := 2123) C (tgt := 23) dL_law_2123 rfl ?_
      refine r_sub [(0, .ref sb), (1, .ref (x_b X + v1)), (2, .ref (x_b X + v2)), (3, .ref (x_b X + v3)), (4, .int (i + 6))] rfl ?_
      exact r_br (τ := Int32) ((i + 6))
  · refine r_iconst (pc := 1583) C dL_law_1583 ki_0 ?_
    exact r_up (r_zret1 (pc := 1584) C dL_law_1584 (by decide))
noncomputable def p_L_c26 (xs : Nat → Int32) (L : Nat) (v1 v2 v3 : Nat) (i : Int32) : zP (Int32 ⊕ Int32) := (z_bd (z_xs xs L (i + 1)) (fun v101 => (z_bd (z_xs xs L (i + 2)) (fun v102 => (z_bd (p_L_rent v1 v101 v102 v3) (fun r103 => (z_bd (z_xs xs L (i + 1)) (fun v104 => (z_bd (z_xs xs L (i + 2)) (fun v105 => (z_bd (z_cv 9 v2 (p_X9_rent v2 v104 v105)) (fun r106 => (z_bd (z_cv 9 v2 (p_X9_thrown v2)) (fun r107 => (if r107 = r103 then (if r103 = 0 then (z_bd (z_aJ 15 v3 0) (fun v108 => (if (lg_cmp v108 ((r106 : Int32).toInt64)) = 0 then (z_pu (.inl ((i + 6)))) else (z_pu (.inr 0))))) else (z_pu (.inl ((i + 6))))) else (z_pu (.inr 0)))))))))))))))))
set_option maxHeartbeats 4000000 in
set_option maxRecDepth 100000 in
theorem s_L_c26 {X : zX} (C : z_Ok X x code 7 ret 2048 84000) (hT : z_Nt X) {sb L : Nat} {xs : Nat → Int32} (hX : va_X sb L xs (x_s X) (x_s X).heap) (hsb : sb < x_b X) (v1 v2 v3 : Nat) (i : Int32) : z_Sim X 7 (z_KT X 7 (z_K0 X z_ivI) 23 (fun (t0 : Int32) => [(0, .ref sb), (1, .ref (x_b X + v1)), (2, .ref (x_b X + v2)), (3, .ref (x_b X + v3)), (4, .int t0)]) (fun _ => [])) 1605 [(0, .ref sb), (1, .ref (x_b X + v1)), (2, .ref (x_b X + v2)), (3, .ref (x_b X + v3)), (4, .int i)] [] (p_L_c26 xs L v1 v2 v3 i) := by
  unfold p_L_c26
  refine r_aload_n (pc := 1605) C dL_law_1605 rfl rfl ?_
  refine r_aload_n (pc := 1606) C dL_law_1606 rfl rfl ?_
  refine r_iload (pc := 1607) C dL_law_1607 rfl ?_
  refine r_iconst (pc := 1609) C dL_law_1609 ki_1 ?_
  refine r_iadd (pc := 1610) C dL_law_1610 ?_
  refine r_sld (pc := 1611) C hX hsb dL_law_1611 (fun v101 => ?_)
  refine r_aload_n (pc := 1612) C dL_law_1612 rfl rfl ?_
  refine r_iload (pc := 1613) C dL_law_1613 rfl ?_
  refine r_iconst (pc := 1615) C dL_law_1615 ki_2 ?_
  refine r_iadd (pc := 1616) C dL_law_1616 ?_
  refine r_sld (pc := 1617) C hX hsb dL_law_1617 (fun v102 => ?_)
  refine r_aload_n (pc := 1618) C dL_law_1618 rfl rfl ?_
  refine r_cSH (pc := 1619) C [.ref (x_b X + v1), .int v101, .int v102, .ref (x_b X + v3)] [] (z_KX.up (z_KX.zero hT)) (s_L_rent v1 v101 v102 v3) mh_L_rent dL_law_1619 ml_L_199 sm_L_rent rfl rfl rfl (Nat.le_of_ble_eq_true rfl) ⟨Nat.le_of_ble_eq_true rfl, Nat.le_of_ble_eq_true rfl⟩ (fun r103 => ?_)
  refine r_sti (pc := 1622) C [(0, .ref sb), (1, .ref (x_b X + v1)), (2, .ref (x_b X + v2)), (3, .ref (x_b X + v3)), (4, .int i), (5, .int r103)] dL_law_1622 (by decide) rfl ?_
  refine r_aload_n (pc := 1624) C dL_law_1624 rfl rfl ?_
  refine r_aload_n (pc := 1625) C dL_law_1625 rfl rfl ?_
  refine r_iload (pc := 1626) C dL_law_1626 rfl ?_
  refine r_iconst (pc := 1628) C dL_law_1628 ki_1 ?_
  refine r_iadd (pc := 1629) C dL_law_1629 ?_
  refine r_sld (pc := 1630) C hX hsb dL_law_1630 (fun v104 => ?_)
  refine r_aload_n (pc := 1631) C dL_law_1631 rfl rfl ?_
  refine r_iload (pc := 1632) C dL_law_1632 rfl ?_
  refine r_iconst (pc := 1634) C dL_law_1634 ki_2 ?_
  refine r_iadd (pc := 1635) C dL_law_1635 ?_
  refine r_sld (pc := 1636) C hX hsb dL_law_1636 (fun v105 => ?_)
  refine r_cVI (pc := 1637) C [.int v104, .int v105] [] (z_KX.up (z_KX.zero hT)) (s_X9_rent v2 v104 v105) mt_X9_rent zc_9 dL_law_1637 ml_L_201 im_X9_rent se_X9_rent rfl rfl rfl (Nat.le_of_ble_eq_true rfl) ⟨Nat.le_of_ble_eq_true rfl, Nat.le_of_ble_eq_true rfl⟩ (fun r106 => ?_)
  refine r_sti (pc := 1640) C [(0, .ref sb), (1, .ref (x_b X + v1)), (2, .ref (x_b X + v2)), (3, .ref (x_b X + v3)), (4, .int i), (5, .int r103), (6, .int r106)] dL_law_1640 (by decide) rfl ?_
  refine r_aload_n (pc := 1642) C dL_law_1642 rfl rfl ?_
  refine r_cVI (pc := 1643) C [] [] (z_KX.up (z_KX.zero hT)) (s_X9_thrown v2) mt_X9_thrown zc_9 dL_law_1643 ml_L_116 im_X9_thrown se_X9_thrown rfl rfl rfl (Nat.le_of_ble_eq_true rfl) ⟨Nat.le_of_ble_eq_true rfl, Nat.le_of_ble_eq_true rfl⟩ (fun r107 => ?_)
  refine r_iload (pc := 1646) C dL_law_1646 rfl ?_
  refine r_icmp_eq (pc := 1648) C (tgt := 1653) dL_law_1648 rfl (fun _ => ?_) (fun _ => ?_)
  · refine r_iload (pc := 1653) C dL_law_1653 rfl ?_
    refine r_if_ne (pc := 1655) C (tgt := 1670) dL_law_1655 rfl (fun _ => ?_) (fun _ => ?_)
    · refine r_aload_n (pc := 1658) C dL_law_1658 rfl rfl ?_
      refine r_iconst (pc := 1659) C dL_law_1659 ki_0 ?_
      refine r_lald (pc := 1660) C dL_law_1660 (fun v108 => ?_)
      refine r_iload (pc := 1661) C dL_law_1661 rfl ?_
      refine r_i2l (pc := 1663) C dL_law_1663 ?_
      refine r_lcmp (pc := 1664) C dL_law_1664 ?_
      refine r_if_eq (pc := 1665) C (tgt := 1670) dL_law_1665 rfl (fun _ => ?_) (fun _ => ?_)
      · refine r_goto (pc := 1670) C (tgt := 2120) dL_law_1670 rfl ?_
        refine r_inc (pc := 2120) C 6 [(0, .ref sb), (1, .ref (x_b X + v1)), (2, .ref (x_b X + v2)), (3, .ref (x_b X + v3)), (4, .int (i + 6))] dL_law_2120 rfl ki_6 (by decide) rfl ?_
        refine r_goto (pc := 2123) C (tgt := 23) dL_law_2123 rfl ?_
        refine r_sub [(0, .ref sb), (1, .ref (x_b X + v1)), (2, .ref (x_b X + v2)), (3, .ref (x_b X + v3)), (4, .int (i + 6))] rfl ?_
        exact r_br (τ := Int32) ((i + 6))
      · refine r_iconst (pc := 1668) C dL_law_1668 ki_0 ?_
        exact r_up (r_zret1 (pc := 1669) C dL_law_1669 (by decide))
    · refine r_goto (pc := 1670) C (tgt := 2120) dL_law_1670 rfl ?_
      refine r_inc (pc := 2120) C 6 [(0, .ref sb), (1, .ref (x_b X + v1)), (2, .ref (x_b X + v2)), (3, .ref (x_b X + v3)), (4, .int (i + 6))] dL_law_2120 rfl ki_6 (by decide) rfl ?_
      refine r_goto (pc := 2123) C (tgt := 23) dL_law_2123 rfl ?_
      refine r_sub [(0, .ref sb), (1, .ref (x_b X + v1)), (2, .ref (x_b X + v2)), (3, .ref (x_b X + v3)), (4, .int (i + 6))] rfl ?_
      exact r_br (τ := Int32) ((i + 6))
  · refine r_iconst (pc := 1651) C dL_law_1651 ki_0 ?_
    exact r_up (r_zret1 (pc := 1652) C dL_law_1652 (by decide))
noncomputable def p_L_c27 (xs : Nat → Int32) (L : Nat) (v1 v2 v3 : Nat) (i : Int32) : zP (Int32 ⊕ Int32) := (z_bd (z_xs xs L (i + 1)) (fun v101 => (z_bd (z_xs xs L (i + 2)) (fun v102 => (z_bd (z_xs xs L (i + 3)) (fun v103 => (z_bd (p_L_dispatch v1 v101 v102 v103 v3) (fun r104 => (z_bd (z_xs xs L (i + 1)) (fun v105 => (z_bd (z_xs xs L (i + 2)) (fun v106 => (z_bd (z_xs xs L (i + 3)) (fun v107 => (z_bd (z_cv 9 v2 (p_X9_dispatch v2 v105 v106 v107)) (fun r108 => (z_bd (z_cv 9 v2 (p_X9_thrown v2)) (fun r109 => (if r109 = r104 then (if r104 = 0 then (z_bd (z_aJ 15 v3 0) (fun v110 => (if (lg_cmp v110 ((r108 : Int32).toInt64)) = 0 then (z_pu (.inl ((i + 6)))) else (z_pu (.inr 0))))) else (z_pu (.inl ((i + 6))))) else (z_pu (.inr 0)))))))))))))))))))))
set_option maxHeartbeats 4000000 in
set_option maxRecDepth 100000 in
theorem s_L_c27 {X : zX} (C : z_Ok X x code 7 ret 2048 84000) (hT : z_Nt X) {sb L : Nat} {xs : Nat → Int32} (hX : va_X sb L xs (x_s X) (x_s X).heap) (hsb : sb < x_b X) (v1 v2 v3 : Nat) (i : Int32) : z_Sim X 7 (z_KT X 7 (z_K0 X z_ivI) 23 (fun (t0 : Int32) => [(0, .ref sb), (1, .ref (x_b X + v1)), (2, .ref (x_b X + v2)), (3, .ref (x_b X + v3)), (4, .int t0)]) (fun _ => [])) 1673 [(0, .ref sb), (1, .ref (x_b X + v1)), (2, .ref (x_b X + v2)), (3, .ref (x_b X + v3)), (4, .int i)] [] (p_L_c27 xs L v1 v2 v3 i) := by
  unfold p_L_c27
  refine r_aload_n (pc := 1673) C dL_law_1673 rfl rfl ?_
  refine r_aload_n (pc := 1674) C dL_law_1674 rfl rfl ?_
  refine r_iload (pc := 1675) C dL_law_1675 rfl ?_
  refine r_iconst (pc := 1677) C dL_law_1677 ki_1 ?_
  refine r_iadd (pc := 1678) C dL_law_1678 ?_
  refine r_sld (pc := 1679) C hX hsb dL_law_1679 (fun v101 => ?_)
  refine r_aload_n (pc := 1680) C dL_law_1680 rfl rfl ?_
  refine r_iload (pc := 1681) C dL_law_1681 rfl ?_
  refine r_iconst (pc := 1683) C dL_law_1683 ki_2 ?_
  refine r_iadd (pc := 1684) C dL_law_1684 ?_
  refine r_sld (pc := 1685) C hX hsb dL_law_1685 (fun v102 => ?_)
  refine r_aload_n (pc := 1686) C dL_law_1686 rfl rfl ?_
  refine r_iload (pc := 1687) C dL_law_1687 rfl ?_
  refine r_iconst (pc := 1689) C dL_law_1689 ki_3 ?_
  refine r_iadd (pc := 1690) C dL_law_1690 ?_
  refine r_sld (pc := 1691) C hX hsb dL_law_1691 (fun v103 => ?_)
  refine r_aload_n (pc := 1692) C dL_law_1692 rfl rfl ?_
  refine r_cSH (pc := 1693) C [.ref (x_b X + v1), .int v101, .int v102, .int v103, .ref (x_b X + v3)] [] (z_KX.up (z_KX.zero hT)) (s_L_dispatch v1 v101 v102 v103 v3) mh_L_dispatch dL_law_1693 ml_L_202 sm_L_dispatch rfl rfl rfl (Nat.le_of_ble_eq_true rfl) ⟨Nat.le_of_ble_eq_true rfl, Nat.le_of_ble_eq_true rfl⟩ (fun r104 => ?_)
  refine r_sti (pc := 1696) C [(0, .ref sb), (1, .ref (x_b X + v1)), (2, .ref (x_b X + v2)), (3, .ref (x_b X + v3)), (4, .int i), (5, .int r104)] dL_law_1696 (by decide) rfl ?_
  refine r_aload_n (pc := 1698) C dL_law_1698 rfl rfl ?_
  refine r_aload_n (pc := 1699) C dL_law_1699 rfl rfl ?_
  refine r_iload (pc := 1700) C dL_law_1700 rfl ?_
  refine r_iconst (pc := 1702) C dL_law_1702 ki_1 ?_
  refine r_iadd (pc := 1703) C dL_law_1703 ?_
  refine r_sld (pc := 1704) C hX hsb dL_law_1704 (fun v105 => ?_)
  refine r_aload_n (pc := 1705) C dL_law_1705 rfl rfl ?_
  refine r_iload (pc := 1706) C dL_law_1706 rfl ?_
  refine r_iconst (pc := 1708) C dL_law_1708 ki_2 ?_
  refine r_iadd (pc := 1709) C dL_law_1709 ?_
  refine r_sld (pc := 1710) C hX hsb dL_law_1710 (fun v106 => ?_)
  refine r_aload_n (pc := 1711) C dL_law_1711 rfl rfl ?_
  refine r_iload (pc := 1712) C dL_law_1712 rfl ?_
  refine r_iconst (pc := 1714) C dL_law_1714 ki_3 ?_
  refine r_iadd (pc := 1715) C dL_law_1715 ?_
  refine r_sld (pc := 1716) C hX hsb dL_law_1716 (fun v107 => ?_)
  refine r_cVI (pc := 1717) C [.int v105, .int v106, .int v107] [] (z_KX.up (z_KX.zero hT)) (s_X9_dispatch v2 v105 v106 v107) mt_X9_dispatch zc_9 dL_law_1717 ml_L_205 im_X9_dispatch se_X9_dispatch rfl rfl rfl (Nat.le_of_ble_eq_true rfl) ⟨Nat.le_of_ble_eq_true rfl, Nat.le_of_ble_eq_true rfl⟩ (fun r108 => ?_)
  refine r_sti (pc := 1720) C [(0, .ref sb), (1, .ref (x_b X + v1)), (2, .ref (x_b X + v2)), (3, .ref (x_b X + v3)), (4, .int i), (5, .int r104), (6, .int r108)] dL_law_1720 (by decide) rfl ?_
  refine r_aload_n (pc := 1722) C dL_law_1722 rfl rfl ?_
  refine r_cVI (pc := 1723) C [] [] (z_KX.up (z_KX.zero hT)) (s_X9_thrown v2) mt_X9_thrown zc_9 dL_law_1723 ml_L_116 im_X9_thrown se_X9_thrown rfl rfl rfl (Nat.le_of_ble_eq_true rfl) ⟨Nat.le_of_ble_eq_true rfl, Nat.le_of_ble_eq_true rfl⟩ (fun r109 => ?_)
  refine r_iload (pc := 1726) C dL_law_1726 rfl ?_
  refine r_icmp_eq (pc := 1728) C (tgt := 1733) dL_law_1728 rfl (fun _ => ?_) (fun _ => ?_)
  · refine r_iload (pc := 1733) C dL_law_1733 rfl ?_
    refine r_if_ne (pc := 1735) C (tgt := 1750) dL_law_1735 rfl (fun _ => ?_) (fun _ => ?_)
    · refine r_aload_n (pc := 1738) C dL_law_1738 rfl rfl ?_
      refine r_iconst (pc := 1739) C dL_law_1739 ki_0 ?_
      refine r_lald (pc := 1740) C dL_law_1740 (fun v110 => ?_)
      refine r_iload (pc := 1741) C dL_law_1741 rfl ?_
      refine r_i2l (pc := 1743) C dL_law_1743 ?_
      refine r_lcmp (pc := 1744) C dL_law_1744 ?_
      refine r_if_eq (pc := 1745) C (tgt := 1750) dL_law_1745 rfl (fun _ => ?_) (fun _ => ?_)
      · refine r_goto (pc := 1750) C (tgt := 2120) dL_law_1750 rfl ?_
        refine r_inc (pc := 2120) C 6 [(0, .ref sb), (1, .ref (x_b X + v1)), (2, .ref (x_b X + v2)), (3, .ref (x_b X + v3)), (4, .int (i + 6))] dL_law_2120 rfl ki_6 (by decide) rfl ?_
        refine r_goto (pc := 2123) C (tgt := 23) dL_law_2123 rfl ?_
        refine r_sub [(0, .ref sb), (1, .ref (x_b X + v1)), (2, .ref (x_b X + v2)), (3, .ref (x_b X + v3)), (4, .int (i + 6))] rfl ?_
        exact r_br (τ := Int32) ((i + 6))
      · refine r_iconst (pc := 1748) C dL_law_1748 ki_0 ?_
        exact r_up (r_zret1 (pc := 1749) C dL_law_1749 (by decide))
    · refine r_goto (pc := 1750) C (tgt := 2120) dL_law_1750 rfl ?_
      refine r_inc (pc := 2120) C 6 [(0, .ref sb), (1, .ref (x_b X + v1)), (2, .ref (x_b X + v2)), (3, .ref (x_b X + v3)), (4, .int (i + 6))] dL_law_2120 rfl ki_6 (by decide) rfl ?_
      refine r_goto (pc := 2123) C (tgt := 23) dL_law_2123 rfl ?_
      refine r_sub [(0, .ref sb), (1, .ref (x_b X + v1)), (2, .ref (x_b X + v2)), (3, .ref (x_b X + v3)), (4, .int (i + 6))] rfl ?_
      exact r_br (τ := Int32) ((i + 6))
  · refine r_iconst (pc := 1731) C dL_law_1731 ki_0 ?_
    exact r_up (r_zret1 (pc := 1732) C dL_law_1732 (by decide))
noncomputable def p_L_c28 (xs : Nat → Int32) (L : Nat) (v1 v2 v3 : Nat) (i : Int32) : zP (Int32 ⊕ Int32) := (z_bd (z_xs xs L (i + 1)) (fun v101 => (z_bd (p_L_cancel v1 v101 v3) (fun r102 => (z_bd (z_xs xs L (i + 1)) (fun v103 => (z_bd (z_cv 9 v2 (p_X9_cancel v2 v103)) (fun r104 => (z_bd (z_cv 9 v2 (p_X9_thrown v2)) (fun r105 => (if r105 = r102 then (if r102 = 0 then (z_bd (z_aJ 15 v3 0) (fun v106 => (if (lg_cmp v106 ((r104 : Int32).toInt64)) = 0 then (z_pu (.inl ((i + 6)))) else (z_pu (.inr 0))))) else (z_pu (.inl ((i + 6))))) else (z_pu (.inr 0)))))))))))))
set_option maxHeartbeats 4000000 in
set_option maxRecDepth 100000 in
theorem s_L_c28 {X : zX} (C : z_Ok X x code 7 ret 2048 84000) (hT : z_Nt X) {sb L : Nat} {xs : Nat → Int32} (hX : va_X sb L xs (x_s X) (x_s X).heap) (hsb : sb < x_b X) (v1 v2 v3 : Nat) (i : Int32) : z_Sim X 7 (z_KT X 7 (z_K0 X z_ivI) 23 (fun (t0 : Int32) => [(0, .ref sb), (1, .ref (x_b X + v1)), (2, .ref (x_b X + v2)), (3, .ref (x_b X + v3)), (4, .int t0)]) (fun _ => [])) 1753 [(0, .ref sb), (1, .ref (x_b X + v1)), (2, .ref (x_b X + v2)), (3, .ref (x_b X + v3)), (4, .int i)] [] (p_L_c28 xs L v1 v2 v3 i) := by
  unfold p_L_c28
  refine r_aload_n (pc := 1753) C dL_law_1753 rfl rfl ?_
  refine r_aload_n (pc := 1754) C dL_law_1754 rfl rfl ?_
  refine r_iload (pc := 1755) C dL_law_1755 rfl ?_
  refine r_iconst (pc := 1757) C dL_law_1757 ki_1 ?_
  refine r_iadd (pc := 1758) C dL_law_1758 ?_
  refine r_sld (pc := 1759) C hX hsb dL_law_1759 (fun v101 => ?_)
  refine r_aload_n (pc := 1760) C dL_law_1760 rfl rfl ?_
  refine r_cSH (pc := 1761) C [.ref (x_b X + v1), .int v101, .ref (x_b X + v3)] [] (z_KX.up (z_KX.zero hT)) (s_L_cancel v1 v101 v3) mh_L_cancel dL_law_1761 ml_L_206 sm_L_cancel rfl rfl rfl (Nat.le_of_ble_eq_true rfl) ⟨Nat.le_of_ble_eq_true rfl, Nat.le_of_ble_eq_true rfl⟩ (fun r102 => ?_)
  refine r_sti (pc := 1764) C [(0, .ref sb), (1, .ref (x_b X + v1)), (2, .ref (x_b X + v2)), (3, .ref (x_b X + v3)), (4, .int i), (5, .int r102)] dL_law_1764 (by decide) rfl ?_
  refine r_aload_n (pc := 1766) C dL_law_1766 rfl rfl ?_
  refine r_aload_n (pc := 1767) C dL_law_1767 rfl rfl ?_
  refine r_iload (pc := 1768) C dL_law_1768 rfl ?_
  refine r_iconst (pc := 1770) C dL_law_1770 ki_1 ?_
  refine r_iadd (pc := 1771) C dL_law_1771 ?_
  refine r_sld (pc := 1772) C hX hsb dL_law_1772 (fun v103 => ?_)
  refine r_cVI (pc := 1773) C [.int v103] [] (z_KX.up (z_KX.zero hT)) (s_X9_cancel v2 v103) mt_X9_cancel zc_9 dL_law_1773 ml_L_208 im_X9_cancel se_X9_cancel rfl rfl rfl (Nat.le_of_ble_eq_true rfl) ⟨Nat.le_of_ble_eq_true rfl, Nat.le_of_ble_eq_true rfl⟩ (fun r104 => ?_)
  refine r_sti (pc := 1776) C [(0, .ref sb), (1, .ref (x_b X + v1)), (2, .ref (x_b X + v2)), (3, .ref (x_b X + v3)), (4, .int i), (5, .int r102), (6, .int r104)] dL_law_1776 (by decide) rfl ?_
  refine r_aload_n (pc := 1778) C dL_law_1778 rfl rfl ?_
  refine r_cVI (pc := 1779) C [] [] (z_KX.up (z_KX.zero hT)) (s_X9_thrown v2) mt_X9_thrown zc_9 dL_law_1779 ml_L_116 im_X9_thrown se_X9_thrown rfl rfl rfl (Nat.le_of_ble_eq_true rfl) ⟨Nat.le_of_ble_eq_true rfl, Nat.le_of_ble_eq_true rfl⟩ (fun r105 => ?_)
  refine r_iload (pc := 1782) C dL_law_1782 rfl ?_
  refine r_icmp_eq (pc := 1784) C (tgt := 1789) dL_law_1784 rfl (fun _ => ?_) (fun _ => ?_)
  · refine r_iload (pc := 1789) C dL_law_1789 rfl ?_
    refine r_if_ne (pc := 1791) C (tgt := 1806) dL_law_1791 rfl (fun _ => ?_) (fun _ => ?_)
    · refine r_aload_n (pc := 1794) C dL_law_1794 rfl rfl ?_
      refine r_iconst (pc := 1795) C dL_law_1795 ki_0 ?_
      refine r_lald (pc := 1796) C dL_law_1796 (fun v106 => ?_)
      refine r_iload (pc := 1797) C dL_law_1797 rfl ?_
      refine r_i2l (pc := 1799) C dL_law_1799 ?_
      refine r_lcmp (pc := 1800) C dL_law_1800 ?_
      refine r_if_eq (pc := 1801) C (tgt := 1806) dL_law_1801 rfl (fun _ => ?_) (fun _ => ?_)
      · refine r_goto (pc := 1806) C (tgt := 2120) dL_law_1806 rfl ?_
        refine r_inc (pc := 2120) C 6 [(0, .ref sb), (1, .ref (x_b X + v1)), (2, .ref (x_b X + v2)), (3, .ref (x_b X + v3)), (4, .int (i + 6))] dL_law_2120 rfl ki_6 (by decide) rfl ?_
        refine r_goto (pc := 2123) C (tgt := 23) dL_law_2123 rfl ?_
        refine r_sub [(0, .ref sb), (1, .ref (x_b X + v1)), (2, .ref (x_b X + v2)), (3, .ref (x_b X + v3)), (4, .int (i + 6))] rfl ?_
        exact r_br (τ := Int32) ((i + 6))
      · refine r_iconst (pc := 1804) C dL_law_1804 ki_0 ?_
        exact r_up (r_zret1 (pc := 1805) C dL_law_1805 (by decide))
    · refine r_goto (pc := 1806) C (tgt := 2120) dL_law_1806 rfl ?_
      refine r_inc (pc := 2120) C 6 [(0, .ref sb), (1, .ref (x_b X + v1)), (2, .ref (x_b X + v2)), (3, .ref (x_b X + v3)), (4, .int (i + 6))] dL_law_2120 rfl ki_6 (by decide) rfl ?_
      refine r_goto (pc := 2123) C (tgt := 23) dL_law_2123 rfl ?_
      refine r_sub [(0, .ref sb), (1, .ref (x_b X + v1)), (2, .ref (x_b X + v2)), (3, .ref (x_b X + v3)), (4, .int (i + 6))] rfl ?_
      exact r_br (τ := Int32) ((i + 6))
  · refine r_iconst (pc := 1787) C dL_law_1787 ki_0 ?_
    exact r_up (r_zret1 (pc := 1788) C dL_law_1788 (by decide))
noncomputable def p_L_c29 (xs : Nat → Int32) (L : Nat) (v1 v2 v3 : Nat) (i : Int32) : zP (Int32 ⊕ Int32) := (z_bd (z_xs xs L (i + 1)) (fun v101 => (z_bd (p_L_breakDock v1 v101 v3) (fun r102 => (z_bd (z_xs xs L (i + 1)) (fun v103 => (z_bd (z_cv 9 v2 (p_X9_breakDock v2 v103)) (fun r104 => (z_bd (z_cv 9 v2 (p_X9_thrown v2)) (fun r105 => (if r105 = r102 then (if r102 = 0 then (z_bd (z_aJ 15 v3 0) (fun v106 => (if (lg_cmp v106 ((r104 : Int32).toInt64)) = 0 then (z_pu (.inl ((i + 6)))) else (z_pu (.inr 0))))) else (z_pu (.inl ((i + 6))))) else (z_pu (.inr 0)))))))))))))
set_option maxHeartbeats 4000000 in
set_option maxRecDepth 100000 in
theorem s_L_c29 {X : zX} (C : z_Ok X x code 7 ret 2048 84000) (hT : z_Nt X) {sb L : Nat} {xs : Nat → Int32} (hX : va_X sb L xs (x_s X) (x_s X).heap) (hsb : sb < x_b X) (v1 v2 v3 : Nat) (i : Int32) : z_Sim X 7 (z_KT X 7 (z_K0 X z_ivI) 23 (fun (t0 : Int32) => [(0, .ref sb), (1, .ref (x_b X + v1)), (2, .ref (x_b X + v2)), (3, .ref (x_b X + v3)), (4, .int t0)]) (fun _ => [])) 1809 [(0, .ref sb), (1, .ref (x_b X + v1)), (2, .ref (x_b X + v2)), (3, .ref (x_b X + v3)), (4, .int i)] [] (p_L_c29 xs L v1 v2 v3 i) := by
  unfold p_L_c29
  refine r_aload_n (pc := 1809) C dL_law_1809 rfl rfl ?_
  refine r_aload_n (pc := 1810) C dL_law_1810 rfl rfl ?_
  refine r_iload (pc := 1811) C dL_law_1811 rfl ?_
  refine r_iconst (pc := 1813) C dL_law_1813 ki_1 ?_
  refine r_iadd (pc := 1814) C dL_law_1814 ?_
  refine r_sld (pc := 1815) C hX hsb dL_law_1815 (fun v101 => ?_)
  refine r_aload_n (pc := 1816) C dL_law_1816 rfl rfl ?_
  refine r_cSH (pc := 1817) C [.ref (x_b X + v1), .int v101, .ref (x_b X + v3)] [] (z_KX.up (z_KX.zero hT)) (s_L_breakDock v1 v101 v3) mh_L_breakDock dL_law_1817 ml_L_209 sm_L_breakDock rfl rfl rfl (Nat.le_of_ble_eq_true rfl) ⟨Nat.le_of_ble_eq_true rfl, Nat.le_of_ble_eq_true rfl⟩ (fun r102 => ?_)
  refine r_sti (pc := 1820) C [(0, .ref sb), (1, .ref (x_b X + v1)), (2, .ref (x_b X + v2)), (3, .ref (x_b X + v3)), (4, .int i), (5, .int r102)] dL_law_1820 (by decide) rfl ?_
  refine r_aload_n (pc := 1822) C dL_law_1822 rfl rfl ?_
  refine r_aload_n (pc := 1823) C dL_law_1823 rfl rfl ?_
  refine r_iload (pc := 1824) C dL_law_1824 rfl ?_
  refine r_iconst (pc := 1826) C dL_law_1826 ki_1 ?_
  refine r_iadd (pc := 1827) C dL_law_1827 ?_
  refine r_sld (pc := 1828) C hX hsb dL_law_1828 (fun v103 => ?_)
  refine r_cVI (pc := 1829) C [.int v103] [] (z_KX.up (z_KX.zero hT)) (s_X9_breakDock v2 v103) mt_X9_breakDock zc_9 dL_law_1829 ml_L_211 im_X9_breakDock se_X9_breakDock rfl rfl rfl (Nat.le_of_ble_eq_true rfl) ⟨Nat.le_of_ble_eq_true rfl, Nat.le_of_ble_eq_true rfl⟩ (fun r104 => ?_)
  refine r_sti (pc := 1832) C [(0, .ref sb), (1, .ref (x_b X + v1)), (2, .ref (x_b X + v2)), (3, .ref (x_b X + v3)), (4, .int i), (5, .int r102), (6, .int r104)] dL_law_1832 (by decide) rfl ?_
  refine r_aload_n (pc := 1834) C dL_law_1834 rfl rfl ?_
  refine r_cVI (pc := 1835) C [] [] (z_KX.up (z_KX.zero hT)) (s_X9_thrown v2) mt_X9_thrown zc_9 dL_law_1835 ml_L_116 im_X9_thrown se_X9_thrown rfl rfl rfl (Nat.le_of_ble_eq_true rfl) ⟨Nat.le_of_ble_eq_true rfl, Nat.le_of_ble_eq_true rfl⟩ (fun r105 => ?_)
  refine r_iload (pc := 1838) C dL_law_1838 rfl ?_
  refine r_icmp_eq (pc := 1840) C (tgt := 1845) dL_law_1840 rfl (fun _ => ?_) (fun _ => ?_)
  · refine r_iload (pc := 1845) C dL_law_1845 rfl ?_
    refine r_if_ne (pc := 1847) C (tgt := 1862) dL_law_1847 rfl (fun _ => ?_) (fun _ => ?_)
    · refine r_aload_n (pc := 1850) C dL_law_1850 rfl rfl ?_
      refine r_iconst (pc := 1851) C dL_law_1851 ki_0 ?_
      refine r_lald (pc := 1852) C dL_law_1852 (fun v106 => ?_)
      refine r_iload (pc := 1853) C dL_law_1853 rfl ?_
      refine r_i2l (pc := 1855) C dL_law_1855 ?_
      refine r_lcmp (pc := 1856) C dL_law_1856 ?_
      refine r_if_eq (pc := 1857) C (tgt := 1862) dL_law_1857 rfl (fun _ => ?_) (fun _ => ?_)
      · refine r_goto (pc := 1862) C (tgt := 2120) dL_law_1862 rfl ?_
        refine r_inc (pc := 2120) C 6 [(0, .ref sb), (1, .ref (x_b X + v1)), (2, .ref (x_b X + v2)), (3, .ref (x_b X + v3)), (4, .int (i + 6))] dL_law_2120 rfl ki_6 (by decide) rfl ?_
        refine r_goto (pc := 2123) C (tgt := 23) dL_law_2123 rfl ?_
        refine r_sub [(0, .ref sb), (1, .ref (x_b X + v1)), (2, .ref (x_b X + v2)), (3, .ref (x_b X + v3)), (4, .int (i + 6))] rfl ?_
        exact r_br (τ := Int32) ((i + 6))
      · refine r_iconst (pc := 1860) C dL_law_1860 ki_0 ?_
        exact r_up (r_zret1 (pc := 1861) C dL_law_1861 (by decide))
    · refine r_goto (pc := 1862) C (tgt := 2120) dL_law_1862 rfl ?_
      refine r_inc (pc := 2120) C 6 [(0, .ref sb), (1, .ref (x_b X + v1)), (2, .ref (x_b X + v2)), (3, .ref (x_b X + v3)), (4, .int (i + 6))] dL_law_2120 rfl ki_6 (by decide) rfl ?_
      refine r_goto (pc := 2123) C (tgt := 23) dL_law_2123 rfl ?_
      refine r_sub [(0, .ref sb), (1, .ref (x_b X + v1)), (2, .ref (x_b X + v2)), (3, .ref (x_b X + v3)), (4, .int (i + 6))] rfl ?_
      exact r_br (τ := Int32) ((i + 6))
  · refine r_iconst (pc := 1843) C dL_law_1843 ki_0 ?_
    exact r_up (r_zret1 (pc := 1844) C dL_law_1844 (by decide))
noncomputable def p_L_c30 (xs : Nat → Int32) (L : Nat) (v1 v2 v3 : Nat) (i : Int32) : zP (Int32 ⊕ Int32) := (z_bd (z_xs xs L (i + 1)) (fun v101 => (z_bd (p_L_repairDock v1 v101 v3) (fun r102 => (z_bd (z_xs xs L (i + 1)) (fun v103 => (z_bd (z_cv 9 v2 (p_X9_repairDock v2 v103)) (fun r104 => (z_bd (z_cv 9 v2 (p_X9_thrown v2)) (fun r105 => (if r105 = r102 then (if r102 = 0 then (z_bd (z_aJ 15 v3 0) (fun v106 => (if (lg_cmp v106 ((r104 : Int32).toInt64)) = 0 then (z_pu (.inl ((i + 6)))) else (z_pu (.inr 0))))) else (z_pu (.inl ((i + 6))))) else (z_pu (.inr 0)))))))))))))
set_option maxHeartbeats 4000000 in
set_option maxRecDepth 100000 in
theorem s_L_c30 {X : zX} (C : z_Ok X x code 7 ret 2048 84000) (hT : z_Nt X) {sb L : Nat} {xs : Nat → Int32} (hX : va_X sb L xs (x_s X) (x_s X).heap) (hsb : sb < x_b X) (v1 v2 v3 : Nat) (i : Int32) : z_Sim X 7 (z_KT X 7 (z_K0 X z_ivI) 23 (fun (t0 : Int32) => [(0, .ref sb), (1, .ref (x_b X + v1)), (2, .ref (x_b X + v2)), (3, .ref (x_b X + v3)), (4, .int t0)]) (fun _ => [])) 1865 [(0, .ref sb), (1, .ref (x_b X + v1)), (2, .ref (x_b X + v2)), (3, .ref (x_b X + v3)), (4, .int i)] [] (p_L_c30 xs L v1 v2 v3 i) := by
  unfold p_L_c30
  refine r_aload_n (pc := 1865) C dL_law_1865 rfl rfl ?_
  refine r_aload_n (pc := 1866) C dL_law_1866 rfl rfl ?_
  refine r_iload (pc := 1867) C dL_law_1867 rfl ?_
  refine r_iconst (pc := 1869) C dL_law_1869 ki_1 ?_
  refine r_iadd (pc := 1870) C dL_law_1870 ?_
  refine r_sld (pc := 1871) C hX hsb dL_law_1871 (fun v101 => ?_)
  refine r_aload_n (pc := 1872) C dL_law_1872 rfl rfl ?_
  refine r_cSH (pc := 1873) C [.ref (x_b X + v1), .int v101, .ref (x_b X + v3)] [] (z_KX.up (z_KX.zero hT)) (s_L_repairDock v1 v101 v3) mh_L_repairDock dL_law_1873 ml_L_212 sm_L_repairDock rfl rfl rfl (Nat.le_of_ble_eq_true rfl) ⟨Nat.le_of_ble_eq_true rfl, Nat.le_of_ble_eq_true rfl⟩ (fun r102 => ?_)
  refine r_sti (pc := 1876) C [(0, .ref sb), (1, .ref (x_b X + v1)), (2, .ref (x_b X + v2)), (3, .ref (x_b X + v3)), (4, .int i), (5, .int r102)] dL_law_1876 (by decide) rfl ?_
  refine r_aload_n (pc := 1878) C dL_law_1878 rfl rfl ?_
  refine r_aload_n (pc := 1879) C dL_law_1879 rfl rfl ?_
  refine r_iload (pc := 1880) C dL_law_1880 rfl ?_
  refine r_iconst (pc := 1882) C dL_law_1882 ki_1 ?_
  refine r_iadd (pc := 1883) C dL_law_1883 ?_
  refine r_sld (pc := 1884) C hX hsb dL_law_1884 (fun v103 => ?_)
  refine r_cVI (pc := 1885) C [.int v103] [] (z_KX.up (z_KX.zero hT)) (s_X9_repairDock v2 v103) mt_X9_repairDock zc_9 dL_law_1885 ml_L_214 im_X9_repairDock se_X9_repairDock rfl rfl rfl (Nat.le_of_ble_eq_true rfl) ⟨Nat.le_of_ble_eq_true rfl, Nat.le_of_ble_eq_true rfl⟩ (fun r104 => ?_)
  refine r_sti (pc := 1888) C [(0, .ref sb), (1, .ref (x_b X + v1)), (2, .ref (x_b X + v2)), (3, .ref (x_b X + v3)), (4, .int i), (5, .int r102), (6, .int r104)] dL_law_1888 (by decide) rfl ?_
  refine r_aload_n (pc := 1890) C dL_law_1890 rfl rfl ?_
  refine r_cVI (pc := 1891) C [] [] (z_KX.up (z_KX.zero hT)) (s_X9_thrown v2) mt_X9_thrown zc_9 dL_law_1891 ml_L_116 im_X9_thrown se_X9_thrown rfl rfl rfl (Nat.le_of_ble_eq_true rfl) ⟨Nat.le_of_ble_eq_true rfl, Nat.le_of_ble_eq_true rfl⟩ (fun r105 => ?_)
  refine r_iload (pc := 1894) C dL_law_1894 rfl ?_
  refine r_icmp_eq (pc := 1896) C (tgt := 1901) dL_law_1896 rfl (fun _ => ?_) (fun _ => ?_)
  · refine r_iload (pc := 1901) C dL_law_1901 rfl ?_
    refine r_if_ne (pc := 1903) C (tgt := 1918) dL_law_1903 rfl (fun _ => ?_) (fun _ => ?_)
    · refine r_aload_n (pc := 1906) C dL_law_1906 rfl rfl ?_
      refine r_iconst (pc := 1907) C dL_law_1907 ki_0 ?_
      refine r_lald (pc := 1908) C dL_law_1908 (fun v106 => ?_)
      refine r_iload (pc := 1909) C dL_law_1909 rfl ?_
      refine r_i2l (pc := 1911) C dL_law_1911 ?_
      refine r_lcmp (pc := 1912) C dL_law_1912 ?_
      refine r_if_eq (pc := 1913) C (tgt := 1918) dL_law_1913 rfl (fun _ => ?_) (fun _ => ?_)
      · refine r_goto (pc := 1918) C (tgt := 2120) dL_law_1918 rfl ?_
        refine r_inc (pc := 2120) C 6 [(0, .ref sb), (1, .ref (x_b X + v1)), (2, .ref (x_b X + v2)), (3, .ref (x_b X + v3)), (4, .int (i + 6))] dL_law_2120 rfl ki_6 (by decide) rfl ?_
        refine r_goto (pc := 2123) C (tgt := 23) dL_law_2123 rfl ?_
        refine r_sub [(0, .ref sb), (1, .ref (x_b X + v1)), (2, .ref (x_b X + v2)), (3, .ref (x_b X + v3)), (4, .int (i + 6))] rfl ?_
        exact r_br (τ := Int32) ((i + 6))
      · refine r_iconst (pc := 1916) C dL_law_1916 ki_0 ?_
        exact r_up (r_zret1 (pc := 1917) C dL_law_1917 (by decide))
    · refine r_goto (pc := 1918) C (tgt := 2120) dL_law_1918 rfl ?_
      refine r_inc (pc := 2120) C 6 [(0, .ref sb), (1, .ref (x_b X + v1)), (2, .ref (x_b X + v2)), (3, .ref (x_b X + v3)), (4, .int (i + 6))] dL_law_2120 rfl ki_6 (by decide) rfl ?_
      refine r_goto (pc := 2123) C (tgt := 23) dL_law_2123 rfl ?_
      refine r_sub [(0, .ref sb), (1, .ref (x_b X + v1)), (2, .ref (x_b X + v2)), (3, .ref (x_b X + v3)), (4, .int (i + 6))] rfl ?_
      exact r_br (τ := Int32) ((i + 6))
  · refine r_iconst (pc := 1899) C dL_law_1899 ki_0 ?_
    exact r_up (r_zret1 (pc := 1900) C dL_law_1900 (by decide))
noncomputable def p_L_c31 (xs : Nat → Int32) (L : Nat) (v1 v2 v3 : Nat) (i : Int32) : zP (Int32 ⊕ Int32) := (z_bd (z_xs xs L (i + 1)) (fun v101 => (z_bd (z_xs xs L (i + 2)) (fun v102 => (z_bd (p_L_addBikes v1 v101 v102 v3) (fun r103 => (z_bd (z_xs xs L (i + 1)) (fun v104 => (z_bd (z_xs xs L (i + 2)) (fun v105 => (z_bd (z_cv 9 v2 (p_X9_addBikes v2 v104 v105)) (fun r106 => (z_bd (z_cv 9 v2 (p_X9_thrown v2)) (fun r107 => (if r107 = r103 then (if r103 = 0 then (z_bd (z_aJ 15 v3 0) (fun v108 => (if (lg_cmp v108 ((r106 : Int32).toInt64)) = 0 then (z_pu (.inl ((i + 6)))) else (z_pu (.inr 0))))) else (z_pu (.inl ((i + 6))))) else (z_pu (.inr 0)))))))))))))))))
set_option maxHeartbeats 4000000 in
set_option maxRecDepth 100000 in
theorem s_L_c31 {X : zX} (C : z_Ok X x code 7 ret 2048 84000) (hT : z_Nt X) {sb L : Nat} {xs : Nat → Int32} (hX : va_X sb L xs (x_s X) (x_s X).heap) (hsb : sb < x_b X) (v1 v2 v3 : Nat) (i : Int32) : z_Sim X 7 (z_KT X 7 (z_K0 X z_ivI) 23 (fun (t0 : Int32) => [(0, .ref sb), (1, .ref (x_b X + v1)), (2, .ref (x_b X + v2)), (3, .ref (x_b X + v3)), (4, .int t0)]) (fun _ => [])) 1921 [(0, .ref sb), (1, .ref (x_b X + v1)), (2, .ref (x_b X + v2)), (3, .ref (x_b X + v3)), (4, .int i)] [] (p_L_c31 xs L v1 v2 v3 i) := by
  unfold p_L_c31
  refine r_aload_n (pc := 1921) C dL_law_1921 rfl rfl ?_
  refine r_aload_n (pc := 1922) C dL_law_1922 rfl rfl ?_
  refine r_iload (pc := 1923) C dL_law_1923 rfl ?_
  refine r_iconst (pc := 1925) C dL_law_1925 ki_1 ?_
  refine r_iadd (pc := 1926) C dL_law_1926 ?_
  refine r_sld (pc := 1927) C hX hsb dL_law_1927 (fun v101 => ?_)
  refine r_aload_n (pc := 1928) C dL_law_1928 rfl rfl ?_
  refine r_iload (pc := 1929) C dL_law_1929 rfl ?_
  refine r_iconst (pc := 1931) C dL_law_1931 ki_2 ?_
  refine r_iadd (pc := 1932) C dL_law_1932 ?_
  refine r_sld (pc := 1933) C hX hsb dL_law_1933 (fun v102 => ?_)
  refine r_aload_n (pc := 1934) C dL_law_1934 rfl rfl ?_
  refine r_cSH (pc := 1935) C [.ref (x_b X + v1), .int v101, .int v102, .ref (x_b X + v3)] [] (z_KX.up (z_KX.zero hT)) (s_L_addBikes v1 v101 v102 v3) mh_L_addBikes dL_law_1935 ml_L_215 sm_L_addBikes rfl rfl rfl (Nat.le_of_ble_eq_true rfl) ⟨Nat.le_of_ble_eq_true rfl, Nat.le_of_ble_eq_true rfl⟩ (fun r103 => ?_)
  refine r_sti (pc := 1938) C [(0, .ref sb), (1, .ref (x_b X + v1)), (2, .ref (x_b X + v2)), (3, .ref (x_b X + v3)), (4, .int i), (5, .int r103)] dL_law_1938 (by decide) rfl ?_
  refine r_aload_n (pc := 1940) C dL_law_1940 rfl rfl ?_
  refine r_aload_n (pc := 1941) C dL_law_1941 rfl rfl ?_
  refine r_iload (pc := 1942) C dL_law_1942 rfl ?_
  refine r_iconst (pc := 1944) C dL_law_1944 ki_1 ?_
  refine r_iadd (pc := 1945) C dL_law_1945 ?_
  refine r_sld (pc := 1946) C hX hsb dL_law_1946 (fun v104 => ?_)
  refine r_aload_n (pc := 1947) C dL_law_1947 rfl rfl ?_
  refine r_iload (pc := 1948) C dL_law_1948 rfl ?_
  refine r_iconst (pc := 1950) C dL_law_1950 ki_2 ?_
  refine r_iadd (pc := 1951) C dL_law_1951 ?_
  refine r_sld (pc := 1952) C hX hsb dL_law_1952 (fun v105 => ?_)
  refine r_cVI (pc := 1953) C [.int v104, .int v105] [] (z_KX.up (z_KX.zero hT)) (s_X9_addBikes v2 v104 v105) mt_X9_addBikes zc_9 dL_law_1953 ml_L_217 im_X9_addBikes se_X9_addBikes rfl rfl rfl (Nat.le_of_ble_eq_true rfl) ⟨Nat.le_of_ble_eq_true rfl, Nat.le_of_ble_eq_true rfl⟩ (fun r106 => ?_)
  refine r_sti (pc := 1956) C [(0, .ref sb), (1, .ref (x_b X + v1)), (2, .ref (x_b X + v2)), (3, .ref (x_b X + v3)), (4, .int i), (5, .int r103), (6, .int r106)] dL_law_1956 (by decide) rfl ?_
  refine r_aload_n (pc := 1958) C dL_law_1958 rfl rfl ?_
  refine r_cVI (pc := 1959) C [] [] (z_KX.up (z_KX.zero hT)) (s_X9_thrown v2) mt_X9_thrown zc_9 dL_law_1959 ml_L_116 im_X9_thrown se_X9_thrown rfl rfl rfl (Nat.le_of_ble_eq_true rfl) ⟨Nat.le_of_ble_eq_true rfl, Nat.le_of_ble_eq_true rfl⟩ (fun r107 => ?_)
  refine r_iload (pc := 1962) C dL_law_1962 rfl ?_
  refine r_icmp_eq (pc := 1964) C (tgt := 1969) dL_law_1964 rfl (fun _ => ?_) (fun _ => ?_)
  · refine r_iload (pc := 1969) C dL_law_1969 rfl ?_
    refine r_if_ne (pc := 1971) C (tgt := 1986) dL_law_1971 rfl (fun _ => ?_) (fun _ => ?_)
    · refine r_aload_n (pc := 1974) C dL_law_1974 rfl rfl ?_
      refine r_iconst (pc := 1975) C dL_law_1975 ki_0 ?_
      refine r_lald (pc := 1976) C dL_law_1976 (fun v108 => ?_)
      refine r_iload (pc := 1977) C dL_law_1977 rfl ?_
      refine r_i2l (pc := 1979) C dL_law_1979 ?_
      refine r_lcmp (pc := 1980) C dL_law_1980 ?_
      refine r_if_eq (pc := 1981) C (tgt := 1986) dL_law_1981 rfl (fun _ => ?_) (fun _ => ?_)
      · refine r_goto (pc := 1986) C (tgt := 2120) dL_law_1986 rfl ?_
        refine r_inc (pc := 2120) C 6 [(0, .ref sb), (1, .ref (x_b X + v1)), (2, .ref (x_b X + v2)), (3, .ref (x_b X + v3)), (4, .int (i + 6))] dL_law_2120 rfl ki_6 (by decide) rfl ?_
        refine r_goto (pc := 2123) C (tgt := 23) dL_law_2123 rfl ?_
        refine r_sub [(0, .ref sb), (1, .ref (x_b X + v1)), (2, .ref (x_b X + v2)), (3, .ref (x_b X + v3)), (4, .int (i + 6))] rfl ?_
        exact r_br (τ := Int32) ((i + 6))
      · refine r_iconst (pc := 1984) C dL_law_1984 ki_0 ?_
        exact r_up (r_zret1 (pc := 1985) C dL_law_1985 (by decide))
    · refine r_goto (pc := 1986) C (tgt := 2120) dL_law_1986 rfl ?_
      refine r_inc (pc := 2120) C 6 [(0, .ref sb), (1, .ref (x_b X + v1)), (2, .ref (x_b X + v2)), (3, .ref (x_b X + v3)), (4, .int (i + 6))] dL_law_2120 rfl ki_6 (by decide) rfl ?_
      refine r_goto (pc := 2123) C (tgt := 23) dL_law_2123 rfl ?_
      refine r_sub [(0, .ref sb), (1, .ref (x_b X + v1)), (2, .ref (x_b X + v2)), (3, .ref (x_b X + v3)), (4, .int (i + 6))] rfl ?_
      exact r_br (τ := Int32) ((i + 6))
  · refine r_iconst (pc := 1967) C dL_law_1967 ki_0 ?_
    exact r_up (r_zret1 (pc := 1968) C dL_law_1968 (by decide))
noncomputable def p_L_c32 (xs : Nat → Int32) (L : Nat) (v1 v2 v3 : Nat) (i : Int32) : zP (Int32 ⊕ Int32) := (z_bd (z_xs xs L (i + 1)) (fun v101 => (z_bd (z_xs xs L (i + 2)) (fun v102 => (z_bd (p_L_removeBikes v1 v101 v102 v3) (fun r103 => (z_bd (z_xs xs L (i + 1)) (fun v104 => (z_bd (z_xs xs L (i + 2)) (fun v105 => (z_bd (z_cv 9 v2 (p_X9_removeBikes v2 v104 v105)) (fun r106 => (z_bd (z_cv 9 v2 (p_X9_thrown v2)) (fun r107 => (if r107 = r103 then (if r103 = 0 then (z_bd (z_aJ 15 v3 0) (fun v108 => (if (lg_cmp v108 ((r106 : Int32).toInt64)) = 0 then (z_pu (.inl ((i + 6)))) else (z_pu (.inr 0))))) else (z_pu (.inl ((i + 6))))) else (z_pu (.inr 0)))))))))))))))))
set_option maxHeartbeats 4000000 in
set_option maxRecDepth 100000 in
theorem s_L_c32 {X : zX} (C : z_Ok X x code 7 ret 2048 84000) (hT : z_Nt X) {sb L : Nat} {xs : Nat → Int32} (hX : va_X sb L xs (x_s X) (x_s X).heap) (hsb : sb < x_b X) (v1 v2 v3 : Nat) (i : Int32) : z_Sim X 7 (z_KT X 7 (z_K0 X z_ivI) 23 (fun (t0 : Int32) => [(0, .ref sb), (1, .ref (x_b X + v1)), (2, .ref (x_b X + v2)), (3, .ref (x_b X + v3)), (4, .int t0)]) (fun _ => [])) 1989 [(0, .ref sb), (1, .ref (x_b X + v1)), (2, .ref (x_b X + v2)), (3, .ref (x_b X + v3)), (4, .int i)] [] (p_L_c32 xs L v1 v2 v3 i) := by
  unfold p_L_c32
  refine r_aload_n (pc := 1989) C dL_law_1989 rfl rfl ?_
  refine r_aload_n (pc := 1990) C dL_law_1990 rfl rfl ?_
  refine r_iload (pc := 1991) C dL_law_1991 rfl ?_
  refine r_iconst (pc := 1993) C dL_law_1993 ki_1 ?_
  refine r_iadd (pc := 1994) C dL_law_1994 ?_
  refine r_sld (pc := 1995) C hX hsb dL_law_1995 (fun v101 => ?_)
  refine r_aload_n (pc := 1996) C dL_law_1996 rfl rfl ?_
  refine r_iload (pc := 1997) C dL_law_1997 rfl ?_
  refine r_iconst (pc := 1999) C dL_law_1999 ki_2 ?_
  refine r_iadd (pc := 2000) C dL_law_2000 ?_
  refine r_sld (pc := 2001) C hX hsb dL_law_2001 (fun v102 => ?_)
  refine r_aload_n (pc := 2002) C dL_law_2002 rfl rfl ?_
  refine r_cSH (pc := 2003) C [.ref (x_b X + v1), .int v101, .int v102, .ref (x_b X + v3)] [] (z_KX.up (z_KX.zero hT)) (s_L_removeBikes v1 v101 v102 v3) mh_L_removeBikes dL_law_2003 ml_L_218 sm_L_removeBikes rfl rfl rfl (Nat.le_of_ble_eq_true rfl) ⟨Nat.le_of_ble_eq_true rfl, Nat.le_of_ble_eq_true rfl⟩ (fun r103 => ?_)
  refine r_sti (pc := 2006) C [(0, .ref sb), (1, .ref (x_b X + v1)), (2, .ref (x_b X + v2)), (3, .ref (x_b X + v3)), (4, .int i), (5, .int r103)] dL_law_2006 (by decide) rfl ?_
  refine r_aload_n (pc := 2008) C dL_law_2008 rfl rfl ?_
  refine r_aload_n (pc := 2009) C dL_law_2009 rfl rfl ?_
  refine r_iload (pc := 2010) C dL_law_2010 rfl ?_
  refine r_iconst (pc := 2012) C dL_law_2012 ki_1 ?_
  refine r_iadd (pc := 2013) C dL_law_2013 ?_
  refine r_sld (pc := 2014) C hX hsb dL_law_2014 (fun v104 => ?_)
  refine r_aload_n (pc := 2015) C dL_law_2015 rfl rfl ?_
  refine r_iload (pc := 2016) C dL_law_2016 rfl ?_
  refine r_iconst (pc := 2018) C dL_law_2018 ki_2 ?_
  refine r_iadd (pc := 2019) C dL_law_2019 ?_
  refine r_sld (pc := 2020) C hX hsb dL_law_2020 (fun v105 => ?_)
  refine r_cVI (pc := 2021) C [.int v104, .int v105] [] (z_KX.up (z_KX.zero hT)) (s_X9_removeBikes v2 v104 v105) mt_X9_removeBikes zc_9 dL_law_2021 ml_L_220 im_X9_removeBikes se_X9_removeBikes rfl rfl rfl (Nat.le_of_ble_eq_true rfl) ⟨Nat.le_of_ble_eq_true rfl, Nat.le_of_ble_eq_true rfl⟩ (fun r106 => ?_)
  refine r_sti (pc := 2024) C [(0, .ref sb), (1, .ref (x_b X + v1)), (2, .ref (x_b X + v2)), (3, .ref (x_b X + v3)), (4, .int i), (5, .int r103), (6, .int r106)] dL_law_2024 (by decide) rfl ?_
  refine r_aload_n (pc := 2026) C dL_law_2026 rfl rfl ?_
  refine r_cVI (pc := 2027) C [] [] (z_KX.up (z_KX.zero hT)) (s_X9_thrown v2) mt_X9_thrown zc_9 dL_law_2027 ml_L_116 im_X9_thrown se_X9_thrown rfl rfl rfl (Nat.le_of_ble_eq_true rfl) ⟨Nat.le_of_ble_eq_true rfl, Nat.le_of_ble_eq_true rfl⟩ (fun r107 => ?_)
  refine r_iload (pc := 2030) C dL_law_2030 rfl ?_
  refine r_icmp_eq (pc := 2032) C (tgt := 2037) dL_law_2032 rfl (fun _ => ?_) (fun _ => ?_)
  · refine r_iload (pc := 2037) C dL_law_2037 rfl ?_
    refine r_if_ne (pc := 2039) C (tgt := 2054) dL_law_2039 rfl (fun _ => ?_) (fun _ => ?_)
    · refine r_aload_n (pc := 2042) C dL_law_2042 rfl rfl ?_
      refine r_iconst (pc := 2043) C dL_law_2043 ki_0 ?_
      refine r_lald (pc := 2044) C dL_law_2044 (fun v108 => ?_)
      refine r_iload (pc := 2045) C dL_law_2045 rfl ?_
      refine r_i2l (pc := 2047) C dL_law_2047 ?_
      refine r_lcmp (pc := 2048) C dL_law_2048 ?_
      refine r_if_eq (pc := 2049) C (tgt := 2054) dL_law_2049 rfl (fun _ => ?_) (fun _ => ?_)
      · refine r_goto (pc := 2054) C (tgt := 2120) dL_law_2054 rfl ?_
        refine r_inc (pc := 2120) C 6 [(0, .ref sb), (1, .ref (x_b X + v1)), (2, .ref (x_b X + v2)), (3, .ref (x_b X + v3)), (4, .int (i + 6))] dL_law_2120 rfl ki_6 (by decide) rfl ?_
        refine r_goto (pc := 2123) C (tgt := 23) dL_law_2123 rfl ?_
        refine r_sub [(0, .ref sb), (1, .ref (x_b X + v1)), (2, .ref (x_b X + v2)), (3, .ref (x_b X + v3)), (4, .int (i + 6))] rfl ?_
        exact r_br (τ := Int32) ((i + 6))
      · refine r_iconst (pc := 2052) C dL_law_2052 ki_0 ?_
        exact r_up (r_zret1 (pc := 2053) C dL_law_2053 (by decide))
    · refine r_goto (pc := 2054) C (tgt := 2120) dL_law_2054 rfl ?_
      refine r_inc (pc := 2120) C 6 [(0, .ref sb), (1, .ref (x_b X + v1)), (2, .ref (x_b X + v2)), (3, .ref (x_b X + v3)), (4, .int (i + 6))] dL_law_2120 rfl ki_6 (by decide) rfl ?_
      refine r_goto (pc := 2123) C (tgt := 23) dL_law_2123 rfl ?_
      refine r_sub [(0, .ref sb), (1, .ref (x_b X + v1)), (2, .ref (x_b X + v2)), (3, .ref (x_b X + v3)), (4, .int (i + 6))] rfl ?_
      exact r_br (τ := Int32) ((i + 6))
  · refine r_iconst (pc := 2035) C dL_law_2035 ki_0 ?_
    exact r_up (r_zret1 (pc := 2036) C dL_law_2036 (by decide))
noncomputable def p_L_c33 (xs : Nat → Int32) (L : Nat) (v1 v2 v3 : Nat) (i : Int32) : zP (Int32 ⊕ Int32) := (z_bd (z_cv 8 v1 (p_X8_undo v1)) (fun r101 => (z_bd (z_cv 9 v2 (p_X9_undo v2)) (fun r102 => (if r101 = r102 then (z_pu (.inl ((i + 6)))) else (z_pu (.inr 0)))))))
set_option maxHeartbeats 4000000 in
set_option maxRecDepth 100000 in
theorem s_L_c33 {X : zX} (C : z_Ok X x code 7 ret 2048 84000) (hT : z_Nt X) {sb L : Nat} {xs : Nat → Int32} (hX : va_X sb L xs (x_s X) (x_s X).heap) (hsb : sb < x_b X) (v1 v2 v3 : Nat) (i : Int32) : z_Sim X 7 (z_KT X 7 (z_K0 X z_ivI) 23 (fun (t0 : Int32) => [(0, .ref sb), (1, .ref (x_b X + v1)), (2, .ref (x_b X + v2)), (3, .ref (x_b X + v3)), (4, .int t0)]) (fun _ => [])) 2057 [(0, .ref sb), (1, .ref (x_b X + v1)), (2, .ref (x_b X + v2)), (3, .ref (x_b X + v3)), (4, .int i)] [] (p_L_c33 xs L v1 v2 v3 i) := by
  unfold p_L_c33
  refine r_aload_n (pc := 2057) C dL_law_2057 rfl rfl ?_
  refine r_cVI (pc := 2058) C [] [] (z_KX.up (z_KX.zero hT)) (s_X8_undo v1) mt_X8_undo zc_8 dL_law_2058 ml_L_221 im_X8_undo se_X8_undo rfl rfl rfl (Nat.le_of_ble_eq_true rfl) ⟨Nat.le_of_ble_eq_true rfl, Nat.le_of_ble_eq_true rfl⟩ (fun r101 => ?_)
  refine r_aload_n (pc := 2061) C dL_law_2061 rfl rfl ?_
  refine r_cVI (pc := 2062) C [] [.int r101] (z_KX.up (z_KX.zero hT)) (s_X9_undo v2) mt_X9_undo zc_9 dL_law_2062 ml_L_224 im_X9_undo se_X9_undo rfl rfl rfl (Nat.le_of_ble_eq_true rfl) ⟨Nat.le_of_ble_eq_true rfl, Nat.le_of_ble_eq_true rfl⟩ (fun r102 => ?_)
  refine r_icmp_eq (pc := 2065) C (tgt := 2120) dL_law_2065 rfl (fun _ => ?_) (fun _ => ?_)
  · refine r_inc (pc := 2120) C 6 [(0, .ref sb), (1, .ref (x_b X + v1)), (2, .ref (x_b X + v2)), (3, .ref (x_b X + v3)), (4, .int (i + 6))] dL_law_2120 rfl ki_6 (by decide) rfl ?_
    refine r_goto (pc := 2123) C (tgt := 23) dL_law_2123 rfl ?_
    refine r_sub [(0, .ref sb), (1, .ref (x_b X + v1)), (2, .ref (x_b X + v2)), (3, .ref (x_b X + v3)), (4, .int (i + 6))] rfl ?_
    exact r_br (τ := Int32) ((i + 6))
  · refine r_iconst (pc := 2068) C dL_law_2068 ki_0 ?_
    exact r_up (r_zret1 (pc := 2069) C dL_law_2069 (by decide))
noncomputable def p_L_c34 (xs : Nat → Int32) (L : Nat) (v1 v2 v3 : Nat) (i : Int32) : zP (Int32 ⊕ Int32) := (z_bd (z_xs xs L (i + 1)) (fun v101 => (z_bd (z_cv 8 v1 (p_X8_saveSnapshot v1 v101)) (fun r102 => (z_bd (z_xs xs L (i + 1)) (fun v103 => (z_bd (z_cv 9 v2 (p_X9_saveSnapshot v2 v103)) (fun r104 => (if r102 = r104 then (z_pu (.inl ((i + 6)))) else (z_pu (.inr 0)))))))))))
set_option maxHeartbeats 4000000 in
set_option maxRecDepth 100000 in
theorem s_L_c34 {X : zX} (C : z_Ok X x code 7 ret 2048 84000) (hT : z_Nt X) {sb L : Nat} {xs : Nat → Int32} (hX : va_X sb L xs (x_s X) (x_s X).heap) (hsb : sb < x_b X) (v1 v2 v3 : Nat) (i : Int32) : z_Sim X 7 (z_KT X 7 (z_K0 X z_ivI) 23 (fun (t0 : Int32) => [(0, .ref sb), (1, .ref (x_b X + v1)), (2, .ref (x_b X + v2)), (3, .ref (x_b X + v3)), (4, .int t0)]) (fun _ => [])) 2070 [(0, .ref sb), (1, .ref (x_b X + v1)), (2, .ref (x_b X + v2)), (3, .ref (x_b X + v3)), (4, .int i)] [] (p_L_c34 xs L v1 v2 v3 i) := by
  unfold p_L_c34
  refine r_aload_n (pc := 2070) C dL_law_2070 rfl rfl ?_
  refine r_aload_n (pc := 2071) C dL_law_2071 rfl rfl ?_
  refine r_iload (pc := 2072) C dL_law_2072 rfl ?_
  refine r_iconst (pc := 2074) C dL_law_2074 ki_1 ?_
  refine r_iadd (pc := 2075) C dL_law_2075 ?_
  refine r_sld (pc := 2076) C hX hsb dL_law_2076 (fun v101 => ?_)
  refine r_cVI (pc := 2077) C [.int v101] [] (z_KX.up (z_KX.zero hT)) (s_X8_saveSnapshot v1 v101) mt_X8_saveSnapshot zc_8 dL_law_2077 ml_L_225 im_X8_saveSnapshot se_X8_saveSnapshot rfl rfl rfl (Nat.le_of_ble_eq_true rfl) ⟨Nat.le_of_ble_eq_true rfl, Nat.le_of_ble_eq_true rfl⟩ (fun r102 => ?_)
  refine r_aload_n (pc := 2080) C dL_law_2080 rfl rfl ?_
  refine r_aload_n (pc := 2081) C dL_law_2081 rfl rfl ?_
  refine r_iload (pc := 2082) C dL_law_2082 rfl ?_
  refine r_iconst (pc := 2084) C dL_law_2084 ki_1 ?_
  refine r_iadd (pc := 2085) C dL_law_2085 ?_
  refine r_sld (pc := 2086) C hX hsb dL_law_2086 (fun v103 => ?_)
  refine r_cVI (pc := 2087) C [.int v103] [.int r102] (z_KX.up (z_KX.zero hT)) (s_X9_saveSnapshot v2 v103) mt_X9_saveSnapshot zc_9 dL_law_2087 ml_L_228 im_X9_saveSnapshot se_X9_saveSnapshot rfl rfl rfl (Nat.le_of_ble_eq_true rfl) ⟨Nat.le_of_ble_eq_true rfl, Nat.le_of_ble_eq_true rfl⟩ (fun r104 => ?_)
  refine r_icmp_eq (pc := 2090) C (tgt := 2120) dL_law_2090 rfl (fun _ => ?_) (fun _ => ?_)
  · refine r_inc (pc := 2120) C 6 [(0, .ref sb), (1, .ref (x_b X + v1)), (2, .ref (x_b X + v2)), (3, .ref (x_b X + v3)), (4, .int (i + 6))] dL_law_2120 rfl ki_6 (by decide) rfl ?_
    refine r_goto (pc := 2123) C (tgt := 23) dL_law_2123 rfl ?_
    refine r_sub [(0, .ref sb), (1, .ref (x_b X + v1)), (2, .ref (x_b X + v2)), (3, .ref (x_b X + v3)), (4, .int (i + 6))] rfl ?_
    exact r_br (τ := Int32) ((i + 6))
  · refine r_iconst (pc := 2093) C dL_law_2093 ki_0 ?_
    exact r_up (r_zret1 (pc := 2094) C dL_law_2094 (by decide))
noncomputable def p_L_c35 (xs : Nat → Int32) (L : Nat) (v1 v2 v3 : Nat) (i : Int32) : zP (Int32 ⊕ Int32) := (z_bd (z_xs xs L (i + 1)) (fun v101 => (z_bd (z_cv 8 v1 (p_X8_restoreSnapshot v1 v101)) (fun r102 => (z_bd (z_xs xs L (i + 1)) (fun v103 => (z_bd (z_cv 9 v2 (p_X9_restoreSnapshot v2 v103)) (fun r104 => (if r102 = r104 then (z_pu (.inl ((i + 6)))) else (z_pu (.inr 0)))))))))))
set_option maxHeartbeats 4000000 in
set_option maxRecDepth 100000 in
theorem s_L_c35 {X : zX} (C : z_Ok X x code 7 ret 2048 84000) (hT : z_Nt X) {sb L : Nat} {xs : Nat → Int32} (hX : va_X sb L xs (x_s X) (x_s X).heap) (hsb : sb < x_b X) (v1 v2 v3 : Nat) (i : Int32) : z_Sim X 7 (z_KT X 7 (z_K0 X z_ivI) 23 (fun (t0 : Int32) => [(0, .ref sb), (1, .ref (x_b X + v1)), (2, .ref (x_b X + v2)), (3, .ref (x_b X + v3)), (4, .int t0)]) (fun _ => [])) 2095 [(0, .ref sb), (1, .ref (x_b X + v1)), (2, .ref (x_b X + v2)), (3, .ref (x_b X + v3)), (4, .int i)] [] (p_L_c35 xs L v1 v2 v3 i) := by
  unfold p_L_c35
  refine r_aload_n (pc := 2095) C dL_law_2095 rfl rfl ?_
  refine r_aload_n (pc := 2096) C dL_law_2096 rfl rfl ?_
  refine r_iload (pc := 2097) C dL_law_2097 rfl ?_
  refine r_iconst (pc := 2099) C dL_law_2099 ki_1 ?_
  refine r_iadd (pc := 2100) C dL_law_2100 ?_
  refine r_sld (pc := 2101) C hX hsb dL_law_2101 (fun v101 => ?_)
  refine r_cVI (pc := 2102) C [.int v101] [] (z_KX.up (z_KX.zero hT)) (s_X8_restoreSnapshot v1 v101) mt_X8_restoreSnapshot zc_8 dL_law_2102 ml_L_229 im_X8_restoreSnapshot se_X8_restoreSnapshot rfl rfl rfl (Nat.le_of_ble_eq_true rfl) ⟨Nat.le_of_ble_eq_true rfl, Nat.le_of_ble_eq_true rfl⟩ (fun r102 => ?_)
  refine r_aload_n (pc := 2105) C dL_law_2105 rfl rfl ?_
  refine r_aload_n (pc := 2106) C dL_law_2106 rfl rfl ?_
  refine r_iload (pc := 2107) C dL_law_2107 rfl ?_
  refine r_iconst (pc := 2109) C dL_law_2109 ki_1 ?_
  refine r_iadd (pc := 2110) C dL_law_2110 ?_
  refine r_sld (pc := 2111) C hX hsb dL_law_2111 (fun v103 => ?_)
  refine r_cVI (pc := 2112) C [.int v103] [.int r102] (z_KX.up (z_KX.zero hT)) (s_X9_restoreSnapshot v2 v103) mt_X9_restoreSnapshot zc_9 dL_law_2112 ml_L_232 im_X9_restoreSnapshot se_X9_restoreSnapshot rfl rfl rfl (Nat.le_of_ble_eq_true rfl) ⟨Nat.le_of_ble_eq_true rfl, Nat.le_of_ble_eq_true rfl⟩ (fun r104 => ?_)
  refine r_icmp_eq (pc := 2115) C (tgt := 2120) dL_law_2115 rfl (fun _ => ?_) (fun _ => ?_)
  · refine r_inc (pc := 2120) C 6 [(0, .ref sb), (1, .ref (x_b X + v1)), (2, .ref (x_b X + v2)), (3, .ref (x_b X + v3)), (4, .int (i + 6))] dL_law_2120 rfl ki_6 (by decide) rfl ?_
    refine r_goto (pc := 2123) C (tgt := 23) dL_law_2123 rfl ?_
    refine r_sub [(0, .ref sb), (1, .ref (x_b X + v1)), (2, .ref (x_b X + v2)), (3, .ref (x_b X + v3)), (4, .int (i + 6))] rfl ?_
    exact r_br (τ := Int32) ((i + 6))
  · refine r_iconst (pc := 2118) C dL_law_2118 ki_0 ?_
    exact r_up (r_zret1 (pc := 2119) C dL_law_2119 (by decide))
