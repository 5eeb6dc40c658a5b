noncomputable def p_L_c0 (xs : Nat → Int32) (L : Nat) (v1 v2 v3 : Nat) (i : Int32) : zP (Int32 ⊕ Int32) := (z_bd (z_xs xs L (i + 1)) (fun v101 => (z_bd (z_xs xs L (i + 2)) (fun v102 => (z_bd (z_xs xs L (i + 3)) (fun v103 => (z_bd (z_xs xs L (i + 4)) (fun v104 => (z_bd (z_xs xs L (i + 5)) (fun v105 => (z_bd (z_cv 8 v1 (p_X8_append v1 v101 v102 v103 v104 v105)) (fun r106 => (z_bd (z_xs xs L (i + 1)) (fun v107 => (z_bd (z_xs xs L (i + 2)) (fun v108 => (z_bd (z_xs xs L (i + 3)) (fun v109 => (z_bd (z_xs xs L (i + 4)) (fun v110 => (z_bd (z_xs xs L (i + 5)) (fun v111 => (z_bd (z_cv 9 v2 (p_X9_append v2 v107 v108 v109 v110 v111)) (fun r112 => (if r106 = r112 then (z_pu (.inl ((i + 6)))) else (z_pu (.inr 0)))))))))))))))))))))))))))
set_option maxHeartbeats 4000000 in
set_option maxRecDepth 100000 in
theorem s_L_c0 {X : zX} (C : z_Ok X x code 7 ret 2048 84000) (hT : z_Nt X) {sb L : Nat} {xs : Nat → Int32} (hX : va_X sb L xs (x_s X) (x_s X).heap) (hsb : sb < x_b X) (v1 v2 v3 : Nat) (i : Int32) : z_Sim X 7 (z_KT X 7 (z_K0 X z_ivI) 23 (fun (t0 : Int32) => [(0, .ref sb), (1, .ref (x_b X + v1)), (2, .ref (x_b X + v2)), (3, .ref (x_b X + v3)), (4, .int t0)]) (fun _ => [])) 200 [(0, .ref sb), (1, .ref (x_b X + v1)), (2, .ref (x_b X + v2)), (3, .ref (x_b X + v3)), (4, .int i)] [] (p_L_c0 xs L v1 v2 v3 i) := by
  unfold p_L_c0
  refine r_aload_n (pc := 200) C dL_law_200 rfl rfl ?_
  refine r_aload_n (pc := 201) C dL_law_201 rfl rfl ?_
  refine r_iload (pc := 202) C dL_law_202 rfl ?_
  refine r_iconst (pc := 204) C dL_law_204 ki_1 ?_
  refine r_iadd (pc := 205) C dL_law_205 ?_
  refine r_sld (pc := 206) C hX hsb dL_law_206 (fun v101 => ?_)
  refine r_aload_n (pc := 207) C dL_law_207 rfl rfl ?_
  refine r_iload (pc := 208) C dL_law_208 rfl ?_
  refine r_iconst (pc := 210) C dL_law_210 ki_2 ?_
  refine r_iadd (pc := 211) C dL_law_211 ?_
  refine r_sld (pc := 212) C hX hsb dL_law_212 (fun v102 => ?_)
  refine r_aload_n (pc := 213) C dL_law_213 rfl rfl ?_
  refine r_iload (pc := 214) C dL_law_214 rfl ?_
  refine r_iconst (pc := 216) C dL_law_216 ki_3 ?_
  refine r_iadd (pc := 217) C dL_law_217 ?_
  refine r_sld (pc := 218) C hX hsb dL_law_218 (fun v103 => ?_)
  refine r_aload_n (pc := 219) C dL_law_219 rfl rfl ?_
  refine r_iload (pc := 220) C dL_law_220 rfl ?_
  refine r_iconst (pc := 222) C dL_law_222 ki_4 ?_
  refine r_iadd (pc := 223) C dL_law_223 ?_
  refine r_sld (pc := 224) C hX hsb dL_law_224 (fun v104 => ?_)
  refine r_aload_n (pc := 225) C dL_law_225 rfl rfl ?_
  refine r_iload (pc := 226) C dL_law_226 rfl ?_
  refine r_iconst (pc := 228) C dL_law_228 ki_5 ?_
  refine r_iadd (pc := 229) C dL_law_229 ?_
  refine r_sld (pc := 230) C hX hsb dL_law_230 (fun v105 => ?_)
  refine r_cVI (pc := 231) C [.int v101, .int v102, .int v103, .int v104, .int v105] [] (z_KX.up (z_KX.zero hT)) (s_X8_append v1 v101 v102 v103 v104 v105) mt_X8_append zc_8 dL_law_231 ml_L_105 im_X8_append se_X8_append rfl rfl rfl (Nat.le_of_ble_eq_true rfl) ⟨Nat.le_of_ble_eq_true rfl, Nat.le_of_ble_eq_true rfl⟩ (fun r106 => ?_)
  refine r_aload_n (pc := 234) C dL_law_234 rfl rfl ?_
  refine r_aload_n (pc := 235) C dL_law_235 rfl rfl ?_
  refine r_iload (pc := 236) C dL_law_236 rfl ?_
  refine r_iconst (pc := 238) C dL_law_238 ki_1 ?_
  refine r_iadd (pc := 239) C dL_law_239 ?_
  refine r_sld (pc := 240) C hX hsb dL_law_240 (fun v107 => ?_)
  refine r_aload_n (pc := 241) C dL_law_241 rfl rfl ?_
  refine r_iload (pc := 242) C dL_law_242 rfl ?_
  refine r_iconst (pc := 244) C dL_law_244 ki_2 ?_
  refine r_iadd (pc := 245) C dL_law_245 ?_
  refine r_sld (pc := 246) C hX hsb dL_law_246 (fun v108 => ?_)
  refine r_aload_n (pc := 247) C dL_law_247 rfl rfl ?_
  refine r_iload (pc := 248) C dL_law_248 rfl ?_
  refine r_iconst (pc := 250) C dL_law_250 ki_3 ?_
  refine r_iadd (pc := 251) C dL_law_251 ?_
  refine r_sld (pc := 252) C hX hsb dL_law_252 (fun v109 => ?_)
  refine r_aload_n (pc := 253) C dL_law_253 rfl rfl ?_
  refine r_iload (pc := 254) C dL_law_254 rfl ?_
  refine r_iconst (pc := 256) C dL_law_256 ki_4 ?_
  refine r_iadd (pc := 257) C dL_law_257 ?_
  refine r_sld (pc := 258) C hX hsb dL_law_258 (fun v110 => ?_)
  refine r_aload_n (pc := 259) C dL_law_259 rfl rfl ?_
  refine r_iload (pc := 260) C dL_law_260 rfl ?_
  refine r_iconst (pc := 262) C dL_law_262 ki_5 ?_
  refine r_iadd (pc := 263) C dL_law_263 ?_
  refine r_sld (pc := 264) C hX hsb dL_law_264 (fun v111 => ?_)
  refine r_cVI (pc := 265) C [.int v107, .int v108, .int v109, .int v110, .int v111] [.int r106] (z_KX.up (z_KX.zero hT)) (s_X9_append v2 v107 v108 v109 v110 v111) mt_X9_append zc_9 dL_law_265 ml_L_109 im_X9_append se_X9_append rfl rfl rfl (Nat.le_of_ble_eq_true rfl) ⟨Nat.le_of_ble_eq_true rfl, Nat.le_of_ble_eq_true rfl⟩ (fun r112 => ?_)
  refine r_icmp_eq (pc := 268) C (tgt := 2120) dL_law_268 rfl (fun _ => ?_) (fun _ => ?_)
  · refine r_inc (pc := 2120) C 6 [(0, .ref sb), (1, .ref (x_b X + v1)), (2, .ref (x_b X + v2)), (3, .ref (x_b X + v3)), (4, .int (i + 6))] dL_law_2120 rfl ki_6 (by decide) rfl ?_
    refine r_goto (pc := 2123) C (tgt := 23) dL_law_2123 rfl ?_
    refine r_sub [(0, .ref sb), (1, .ref (x_b X + v1)), (2, .ref (x_b X + v2)), (3, .ref (x_b X + v3)), (4, .int (i + 6))] rfl ?_
    exact r_br (τ := Int32) ((i + 6))
  · refine r_iconst (pc := 271) C dL_law_271 ki_0 ?_
    exact r_up (r_zret1 (pc := 272) C dL_law_272 (by decide))
noncomputable def p_L_c1 (xs : Nat → Int32) (L : Nat) (v1 v2 v3 : Nat) (i : Int32) : zP (Int32 ⊕ Int32) := (z_bd (z_xs xs L (i + 1)) (fun v101 => (z_bd (p_L_parse v1 v101 v3) (fun r102 => (z_bd (z_xs xs L (i + 1)) (fun v103 => (z_bd (z_cv 9 v2 (p_X9_parse v2 v103)) (fun r104 => (z_bd (z_cv 9 v2 (p_X9_thrown v2)) (fun r105 => (if r105 = r102 then (if r102 = 0 then (z_bd (z_aJ 15 v3 0) (fun v106 => (if (lg_cmp v106 ((r104 : Int32).toInt64)) = 0 then (z_pu (.inl ((i + 6)))) else (z_pu (.inr 0))))) else (z_pu (.inl ((i + 6))))) else (z_pu (.inr 0)))))))))))))
set_option maxHeartbeats 4000000 in
set_option maxRecDepth 100000 in
theorem s_L_c1 {X : zX} (C : z_Ok X x code 7 ret 2048 84000) (hT : z_Nt X) {sb L : Nat} {xs : Nat → Int32} (hX : va_X sb L xs (x_s X) (x_s X).heap) (hsb : sb < x_b X) (v1 v2 v3 : Nat) (i : Int32) : z_Sim X 7 (z_KT X 7 (z_K0 X z_ivI) 23 (fun (t0 : Int32) => [(0, .ref sb), (1, .ref (x_b X + v1)), (2, .ref (x_b X + v2)), (3, .ref (x_b X + v3)), (4, .int t0)]) (fun _ => [])) 273 [(0, .ref sb), (1, .ref (x_b X + v1)), (2, .ref (x_b X + v2)), (3, .ref (x_b X + v3)), (4, .int i)] [] (p_L_c1 xs L v1 v2 v3 i) := by
  unfold p_L_c1
  refine r_aload_n (pc := 273) C dL_law_273 rfl rfl ?_
  refine r_aload_n (pc := 274) C dL_law_274 rfl rfl ?_
  refine r_iload (pc := 275) C dL_law_275 rfl ?_
  refine r_iconst (pc := 277) C dL_law_277 ki_1 ?_
  refine r_iadd (pc := 278) C dL_law_278 ?_
  refine r_sld (pc := 279) C hX hsb dL_law_279 (fun v101 => ?_)
  refine r_aload_n (pc := 280) C dL_law_280 rfl rfl ?_
  refine r_cSH (pc := 281) C [.ref (x_b X + v1), .int v101, .ref (x_b X + v3)] [] (z_KX.up (z_KX.zero hT)) (s_L_parse v1 v101 v3) mh_L_parse dL_law_281 ml_L_110 sm_L_parse rfl rfl rfl (Nat.le_of_ble_eq_true rfl) ⟨Nat.le_of_ble_eq_true rfl, Nat.le_of_ble_eq_true rfl⟩ (fun r102 => ?_)
  refine r_sti (pc := 284) C [(0, .ref sb), (1, .ref (x_b X + v1)), (2, .ref (x_b X + v2)), (3, .ref (x_b X + v3)), (4, .int i), (5, .int r102)] dL_law_284 (by decide) rfl ?_
  refine r_aload_n (pc := 286) C dL_law_286 rfl rfl ?_
  refine r_aload_n (pc := 287) C dL_law_287 rfl rfl ?_
  refine r_iload (pc := 288) C dL_law_288 rfl ?_
  refine r_iconst (pc := 290) C dL_law_290 ki_1 ?_
  refine r_iadd (pc := 291) C dL_law_291 ?_
  refine r_sld (pc := 292) C hX hsb dL_law_292 (fun v103 => ?_)
  refine r_cVI (pc := 293) C [.int v103] [] (z_KX.up (z_KX.zero hT)) (s_X9_parse v2 v103) mt_X9_parse zc_9 dL_law_293 ml_L_115 im_X9_parse se_X9_parse rfl rfl rfl (Nat.le_of_ble_eq_true rfl) ⟨Nat.le_of_ble_eq_true rfl, Nat.le_of_ble_eq_true rfl⟩ (fun r104 => ?_)
  refine r_sti (pc := 296) C [(0, .ref sb), (1, .ref (x_b X + v1)), (2, .ref (x_b X + v2)), (3, .ref (x_b X + v3)), (4, .int i), (5, .int r102), (6, .int r104)] dL_law_296 (by decide) rfl ?_
  refine r_aload_n (pc := 298) C dL_law_298 rfl rfl ?_
  refine r_cVI (pc := 299) C [] [] (z_KX.up (z_KX.zero hT)) (s_X9_thrown v2) mt_X9_thrown zc_9 dL_law_299 ml_L_116 im_X9_thrown se_X9_thrown rfl rfl rfl (Nat.le_of_ble_eq_true rfl) ⟨Nat.le_of_ble_eq_true rfl, Nat.le_of_ble_eq_true rfl⟩ (fun r105 => ?_)
  refine r_iload (pc := 302) C dL_law_302 rfl ?_
  refine r_icmp_eq (pc := 304) C (tgt := 309) dL_law_304 rfl (fun _ => ?_) (fun _ => ?_)
  · refine r_iload (pc := 309) C dL_law_309 rfl ?_
    refine r_if_ne (pc := 311) C (tgt := 326) dL_law_311 rfl (fun _ => ?_) (fun _ => ?_)
    · refine r_aload_n (pc := 314) C dL_law_314 rfl rfl ?_
      refine r_iconst (pc := 315) C dL_law_315 ki_0 ?_
      refine r_lald (pc := 316) C dL_law_316 (fun v106 => ?_)
      refine r_iload (pc := 317) C dL_law_317 rfl ?_
      refine r_i2l (pc := 319) C dL_law_319 ?_
      refine r_lcmp (pc := 320) C dL_law_320 ?_
      refine r_if_eq (pc := 321) C (tgt := 326) dL_law_321 rfl (fun _ => ?_) (fun _ => ?_)
      · refine r_goto (pc := 326) C (tgt := 2120) dL_law_326 rfl ?_
        refine r_inc (pc := 2120) C 6 [(0, .ref sb), (1, .ref (x_b X + v1)), (2, .ref (x_b X + v2)), (3, .ref (x_b X + v3)), (4, .int (i + 6))] dL_law_2120 rfl ki_6 (by decide) rfl ?_
        refine r_goto (pc := 2123) C (tgt := 23) dL_law_2123 rfl ?_
        refine r_sub [(0, .ref sb), (1, .ref (x_b X + v1)), (2, .ref (x_b X + v2)), (3, .ref (x_b X + v3)), (4, .int (i + 6))] rfl ?_
        exact r_br (τ := Int32) ((i + 6))
      · refine r_iconst (pc := 324) C dL_law_324 ki_0 ?_
        exact r_up (r_zret1 (pc := 325) C dL_law_325 (by decide))
    · refine r_goto (pc := 326) C (tgt := 2120) dL_law_326 rfl ?_
      refine r_inc (pc := 2120) C 6 [(0, .ref sb), (1, .ref (x_b X + v1)), (2, .ref (x_b X + v2)), (3, .ref (x_b X + v3)), (4, .int (i + 6))] dL_law_2120 rfl ki_6 (by decide) rfl ?_
      refine r_goto (pc := 2123) C (tgt := 23) dL_law_2123 rfl ?_
      refine r_sub [(0, .ref sb), (1, .ref (x_b X + v1)), (2, .ref (x_b X + v2)), (3, .ref (x_b X + v3)), (4, .int (i + 6))] rfl ?_
      exact r_br (τ := Int32) ((i + 6))
  · refine r_iconst (pc := 307) C dL_law_307 ki_0 ?_
    exact r_up (r_zret1 (pc := 308) C dL_law_308 (by decide))
noncomputable def p_L_c2 (xs : Nat → Int32) (L : Nat) (v1 v2 v3 : Nat) (i : Int32) : zP (Int32 ⊕ Int32) := (z_bd (z_xs xs L (i + 1)) (fun v101 => (z_bd (p_L_size v1 v101 v3) (fun r102 => (z_bd (z_xs xs L (i + 1)) (fun v103 => (z_bd (z_cv 9 v2 (p_X9_size v2 v103)) (fun r104 => (z_bd (z_cv 9 v2 (p_X9_thrown v2)) (fun r105 => (if r105 = r102 then (if r102 = 0 then (z_bd (z_aJ 15 v3 0) (fun v106 => (if (lg_cmp v106 ((r104 : Int32).toInt64)) = 0 then (z_pu (.inl ((i + 6)))) else (z_pu (.inr 0))))) else (z_pu (.inl ((i + 6))))) else (z_pu (.inr 0)))))))))))))
set_option maxHeartbeats 4000000 in
set_option maxRecDepth 100000 in
theorem s_L_c2 {X : zX} (C : z_Ok X x code 7 ret 2048 84000) (hT : z_Nt X) {sb L : Nat} {xs : Nat → Int32} (hX : va_X sb L xs (x_s X) (x_s X).heap) (hsb : sb < x_b X) (v1 v2 v3 : Nat) (i : Int32) : z_Sim X 7 (z_KT X 7 (z_K0 X z_ivI) 23 (fun (t0 : Int32) => [(0, .ref sb), (1, .ref (x_b X + v1)), (2, .ref (x_b X + v2)), (3, .ref (x_b X + v3)), (4, .int t0)]) (fun _ => [])) 329 [(0, .ref sb), (1, .ref (x_b X + v1)), (2, .ref (x_b X + v2)), (3, .ref (x_b X + v3)), (4, .int i)] [] (p_L_c2 xs L v1 v2 v3 i) := by
  unfold p_L_c2
  refine r_aload_n (pc := 329) C dL_law_329 rfl rfl ?_
  refine r_aload_n (pc := 330) C dL_law_330 rfl rfl ?_
  refine r_iload (pc := 331) C dL_law_331 rfl ?_
  refine r_iconst (pc := 333) C dL_law_333 ki_1 ?_
  refine r_iadd (pc := 334) C dL_law_334 ?_
  refine r_sld (pc := 335) C hX hsb dL_law_335 (fun v101 => ?_)
  refine r_aload_n (pc := 336) C dL_law_336 rfl rfl ?_
  refine r_cSH (pc := 337) C [.ref (x_b X + v1), .int v101, .ref (x_b X + v3)] [] (z_KX.up (z_KX.zero hT)) (s_L_size v1 v101 v3) mh_L_size dL_law_337 ml_L_120 sm_L_size rfl rfl rfl (Nat.le_of_ble_eq_true rfl) ⟨Nat.le_of_ble_eq_true rfl, Nat.le_of_ble_eq_true rfl⟩ (fun r102 => ?_)
  refine r_sti (pc := 340) C [(0, .ref sb), (1, .ref (x_b X + v1)), (2, .ref (x_b X + v2)), (3, .ref (x_b X + v3)), (4, .int i), (5, .int r102)] dL_law_340 (by decide) rfl ?_
  refine r_aload_n (pc := 342) C dL_law_342 rfl rfl ?_
  refine r_aload_n (pc := 343) C dL_law_343 rfl rfl ?_
  refine r_iload (pc := 344) C dL_law_344 rfl ?_
  refine r_iconst (pc := 346) C dL_law_346 ki_1 ?_
  refine r_iadd (pc := 347) C dL_law_347 ?_
  refine r_sld (pc := 348) C hX hsb dL_law_348 (fun v103 => ?_)
  refine r_cVI (pc := 349) C [.int v103] [] (z_KX.up (z_KX.zero hT)) (s_X9_size v2 v103) mt_X9_size zc_9 dL_law_349 ml_L_122 im_X9_size se_X9_size rfl rfl rfl (Nat.le_of_ble_eq_true rfl) ⟨Nat.le_of_ble_eq_true rfl, Nat.le_of_ble_eq_true rfl⟩ (fun r104 => ?_)
  refine r_sti (pc := 352) C [(0, .ref sb), (1, .ref (x_b X + v1)), (2, .ref (x_b X + v2)), (3, .ref (x_b X + v3)), (4, .int i), (5, .int r102), (6, .int r104)] dL_law_352 (by decide) rfl ?_
  refine r_aload_n (pc := 354) C dL_law_354 rfl rfl ?_
  refine r_cVI (pc := 355) C [] [] (z_KX.up (z_KX.zero hT)) (s_X9_thrown v2) mt_X9_thrown zc_9 dL_law_355 ml_L_116 im_X9_thrown se_X9_thrown rfl rfl rfl (Nat.le_of_ble_eq_true rfl) ⟨Nat.le_of_ble_eq_true rfl, Nat.le_of_ble_eq_true rfl⟩ (fun r105 => ?_)
  refine r_iload (pc := 358) C dL_law_358 rfl ?_
  refine r_icmp_eq (pc := 360) C (tgt := 365) dL_law_360 rfl (fun _ => ?_) (fun _ => ?_)
  · refine r_iload (pc := 365) C dL_law_365 rfl ?_
    refine r_if_ne (pc := 367) C (tgt := 382) dL_law_367 rfl (fun _ => ?_) (fun _ => ?_)
    · refine r_aload_n (pc := 370) C dL_law_370 rfl rfl ?_
      refine r_iconst (pc := 371) C dL_law_371 ki_0 ?_
      refine r_lald (pc := 372) C dL_law_372 (fun v106 => ?_)
      refine r_iload (pc := 373) C dL_law_373 rfl ?_
      refine r_i2l (pc := 375) C dL_law_375 ?_
      refine r_lcmp (pc := 376) C dL_law_376 ?_
      refine r_if_eq (pc := 377) C (tgt := 382) dL_law_377 rfl (fun _ => ?_) (fun _ => ?_)
      · refine r_goto (pc := 382) C (tgt := 2120) dL_law_382 rfl ?_
        refine r_inc (pc := 2120) C 6 [(0, .ref sb), (1, .ref (x_b X + v1)), (2, .ref (x_b X + v2)), (3, .ref (x_b X + v3)), (4, .int (i + 6))] dL_law_2120 rfl ki_6 (by decide) rfl ?_
        refine r_goto (pc := 2123) C (tgt := 23) dL_law_2123 rfl ?_
        refine r_sub [(0, .ref sb), (1, .ref (x_b X + v1)), (2, .ref (x_b X + v2)), (3, .ref (x_b X + v3)), (4, .int (i + 6))] rfl ?_
        exact r_br (τ := Int32) ((i + 6))
      · refine r_iconst (pc := 380) C dL_law_380 ki_0 ?_
        exact r_up (r_zret1 (pc := 381) C dL_law_381 (by decide))
    · refine r_goto (pc := 382) C (tgt := 2120) dL_law_382 rfl ?_
      refine r_inc (pc := 2120) C 6 [(0, .ref sb), (1, .ref (x_b X + v1)), (2, .ref (x_b X + v2)), (3, .ref (x_b X + v3)), (4, .int (i + 6))] dL_law_2120 rfl ki_6 (by decide) rfl ?_
      refine r_goto (pc := 2123) C (tgt := 23) dL_law_2123 rfl ?_
      refine r_sub [(0, .ref sb), (1, .ref (x_b X + v1)), (2, .ref (x_b X + v2)), (3, .ref (x_b X + v3)), (4, .int (i + 6))] rfl ?_
      exact r_br (τ := Int32) ((i + 6))
  · refine r_iconst (pc := 363) C dL_law_363 ki_0 ?_
    exact r_up (r_zret1 (pc := 364) C dL_law_364 (by decide))
noncomputable def p_L_c3 (xs : Nat → Int32) (L : Nat) (v1 v2 v3 : Nat) (i : Int32) : zP (Int32 ⊕ Int32) := (z_bd (z_cv 8 v1 (p_X8_time v1)) (fun r101 => (z_bd (z_cv 9 v2 (p_X9_time v2)) (fun r102 => (if r101 = r102 then (z_pu (.inl ((i + 6)))) else (z_pu (.inr 0)))))))
set_option maxHeartbeats 4000000 in
set_option maxRecDepth 100000 in
theorem s_L_c3 {X : zX} (C : z_Ok X x code 7 ret 2048 84000) (hT : z_Nt X) {sb L : Nat} {xs : Nat → Int32} (hX : va_X sb L xs (x_s X) (x_s X).heap) (hsb : sb < x_b X) (v1 v2 v3 : Nat) (i : Int32) : z_Sim X 7 (z_KT X 7 (z_K0 X z_ivI) 23 (fun (t0 : Int32) => [(0, .ref sb), (1, .ref (x_b X + v1)), (2, .ref (x_b X + v2)), (3, .ref (x_b X + v3)), (4, .int t0)]) (fun _ => [])) 385 [(0, .ref sb), (1, .ref (x_b X + v1)), (2, .ref (x_b X + v2)), (3, .ref (x_b X + v3)), (4, .int i)] [] (p_L_c3 xs L v1 v2 v3 i) := by
  unfold p_L_c3
  refine r_aload_n (pc := 385) C dL_law_385 rfl rfl ?_
  refine r_cVI (pc := 386) C [] [] (z_KX.up (z_KX.zero hT)) (s_X8_time v1) mt_X8_time zc_8 dL_law_386 ml_L_123 im_X8_time se_X8_time rfl rfl rfl (Nat.le_of_ble_eq_true rfl) ⟨Nat.le_of_ble_eq_true rfl, Nat.le_of_ble_eq_true rfl⟩ (fun r101 => ?_)
  refine r_aload_n (pc := 389) C dL_law_389 rfl rfl ?_
  refine r_cVI (pc := 390) C [] [.int r101] (z_KX.up (z_KX.zero hT)) (s_X9_time v2) mt_X9_time zc_9 dL_law_390 ml_L_126 im_X9_time se_X9_time rfl rfl rfl (Nat.le_of_ble_eq_true rfl) ⟨Nat.le_of_ble_eq_true rfl, Nat.le_of_ble_eq_true rfl⟩ (fun r102 => ?_)
  refine r_icmp_eq (pc := 393) C (tgt := 2120) dL_law_393 rfl (fun _ => ?_) (fun _ => ?_)
  · refine r_inc (pc := 2120) C 6 [(0, .ref sb), (1, .ref (x_b X + v1)), (2, .ref (x_b X + v2)), (3, .ref (x_b X + v3)), (4, .int (i + 6))] dL_law_2120 rfl ki_6 (by decide) rfl ?_
    refine r_goto (pc := 2123) C (tgt := 23) dL_law_2123 rfl ?_
    refine r_sub [(0, .ref sb), (1, .ref (x_b X + v1)), (2, .ref (x_b X + v2)), (3, .ref (x_b X + v3)), (4, .int (i + 6))] rfl ?_
    exact r_br (τ := Int32) ((i + 6))
  · refine r_iconst (pc := 396) C dL_law_396 ki_0 ?_
    exact r_up (r_zret1 (pc := 397) C dL_law_397 (by decide))
noncomputable def p_L_c4 (xs : Nat → Int32) (L : Nat) (v1 v2 v3 : Nat) (i : Int32) : zP (Int32 ⊕ Int32) := (z_bd (z_cv 8 v1 (p_X8_fleet v1)) (fun r101 => (z_bd (z_cv 9 v2 (p_X9_fleet v2)) (fun r102 => (if r101 = r102 then (z_pu (.inl ((i + 6)))) else (z_pu (.inr 0)))))))
set_option maxHeartbeats 4000000 in
set_option maxRecDepth 100000 in
theorem s_L_c4 {X : zX} (C : z_Ok X x code 7 ret 2048 84000) (hT : z_Nt X) {sb L : Nat} {xs : Nat → Int32} (hX : va_X sb L xs (x_s X) (x_s X).heap) (hsb : sb < x_b X) (v1 v2 v3 : Nat) (i : Int32) : z_Sim X 7 (z_KT X 7 (z_K0 X z_ivI) 23 (fun (t0 : Int32) => [(0, .ref sb), (1, .ref (x_b X + v1)), (2, .ref (x_b X + v2)), (3, .ref (x_b X + v3)), (4, .int t0)]) (fun _ => [])) 398 [(0, .ref sb), (1, .ref (x_b X + v1)), (2, .ref (x_b X + v2)), (3, .ref (x_b X + v3)), (4, .int i)] [] (p_L_c4 xs L v1 v2 v3 i) := by
  unfold p_L_c4
  refine r_aload_n (pc := 398) C dL_law_398 rfl rfl ?_
  refine r_cVI (pc := 399) C [] [] (z_KX.up (z_KX.zero hT)) (s_X8_fleet v1) mt_X8_fleet zc_8 dL_law_399 ml_L_127 im_X8_fleet se_X8_fleet rfl rfl rfl (Nat.le_of_ble_eq_true rfl) ⟨Nat.le_of_ble_eq_true rfl, Nat.le_of_ble_eq_true rfl⟩ (fun r101 => ?_)
  refine r_aload_n (pc := 402) C dL_law_402 rfl rfl ?_
  refine r_cVI (pc := 403) C [] [.int r101] (z_KX.up (z_KX.zero hT)) (s_X9_fleet v2) mt_X9_fleet zc_9 dL_law_403 ml_L_130 im_X9_fleet se_X9_fleet rfl rfl rfl (Nat.le_of_ble_eq_true rfl) ⟨Nat.le_of_ble_eq_true rfl, Nat.le_of_ble_eq_true rfl⟩ (fun r102 => ?_)
  refine r_icmp_eq (pc := 406) C (tgt := 2120) dL_law_406 rfl (fun _ => ?_) (fun _ => ?_)
  · refine r_inc (pc := 2120) C 6 [(0, .ref sb), (1, .ref (x_b X + v1)), (2, .ref (x_b X + v2)), (3, .ref (x_b X + v3)), (4, .int (i + 6))] dL_law_2120 rfl ki_6 (by decide) rfl ?_
    refine r_goto (pc := 2123) C (tgt := 23) dL_law_2123 rfl ?_
    refine r_sub [(0, .ref sb), (1, .ref (x_b X + v1)), (2, .ref (x_b X + v2)), (3, .ref (x_b X + v3)), (4, .int (i + 6))] rfl ?_
    exact r_br (τ := Int32) ((i + 6))
  · refine r_iconst (pc := 409) C dL_law_409 ki_0 ?_
    exact r_up (r_zret1 (pc := 410) C dL_law_410 (by decide))
noncomputable def p_L_c5 (xs : Nat → Int32) (L : Nat) (v1 v2 v3 : Nat) (i : Int32) : zP (Int32 ⊕ Int32) := (z_bd (z_xs xs L (i + 1)) (fun v101 => (z_bd (p_L_bikes v1 v101 v3) (fun r102 => (z_bd (z_xs xs L (i + 1)) (fun v103 => (z_bd (z_cv 9 v2 (p_X9_bikes v2 v103)) (fun r104 => (z_bd (z_cv 9 v2 (p_X9_thrown v2)) (fun r105 => (if r105 = r102 then (if r102 = 0 then (z_bd (z_aJ 15 v3 0) (fun v106 => (if (lg_cmp v106 ((r104 : Int32).toInt64)) = 0 then (z_pu (.inl ((i + 6)))) else (z_pu (.inr 0))))) else (z_pu (.inl ((i + 6))))) else (z_pu (.inr 0)))))))))))))
set_option maxHeartbeats 4000000 in
set_option maxRecDepth 100000 in
theorem s_L_c5 {X : zX} (C : z_Ok X x code 7 ret 2048 84000) (hT : z_Nt X) {sb L : Nat} {xs : Nat → Int32} (hX : va_X sb L xs (x_s X) (x_s X).heap) (hsb : sb < x_b X) (v1 v2 v3 : Nat) (i : Int32) : z_Sim X 7 (z_KT X 7 (z_K0 X z_ivI) 23 (fun (t0 : Int32) => [(0, .ref sb), (1, .ref (x_b X + v1)), (2, .ref (x_b X + v2)), (3, .ref (x_b X + v3)), (4, .int t0)]) (fun _ => [])) 411 [(0, .ref sb), (1, .ref (x_b X + v1)), (2, .ref (x_b X + v2)), (3, .ref (x_b X + v3)), (4, .int i)] [] (p_L_c5 xs L v1 v2 v3 i) := by
  unfold p_L_c5
  refine r_aload_n (pc := 411) C dL_law_411 rfl rfl ?_
  refine r_aload_n (pc := 412) C dL_law_412 rfl rfl ?_
  refine r_iload (pc := 413) C dL_law_413 rfl ?_
  refine r_iconst (pc := 415) C dL_law_415 ki_1 ?_
  refine r_iadd (pc := 416) C dL_law_416 ?_
  refine r_sld (pc := 417) C hX hsb dL_law_417 (fun v101 => ?_)
  refine r_aload_n (pc := 418) C dL_law_418 rfl rfl ?_
  refine r_cSH (pc := 419) C [.ref (x_b X + v1), .int v101, .ref (x_b X + v3)] [] (z_KX.up (z_KX.zero hT)) (s_L_bikes v1 v101 v3) mh_L_bikes dL_law_419 ml_L_131 sm_L_bikes rfl rfl rfl (Nat.le_of_ble_eq_true rfl) ⟨Nat.le_of_ble_eq_true rfl, Nat.le_of_ble_eq_true rfl⟩ (fun r102 => ?_)
  refine r_sti (pc := 422) C [(0, .ref sb), (1, .ref (x_b X + v1)), (2, .ref (x_b X + v2)), (3, .ref (x_b X + v3)), (4, .int i), (5, .int r102)] dL_law_422 (by decide) rfl ?_
  refine r_aload_n (pc := 424) C dL_law_424 rfl rfl ?_
  refine r_aload_n (pc := 425) C dL_law_425 rfl rfl ?_
  refine r_iload (pc := 426) C dL_law_426 rfl ?_
  refine r_iconst (pc := 428) C dL_law_428 ki_1 ?_
  refine r_iadd (pc := 429) C dL_law_429 ?_
  refine r_sld (pc := 430) C hX hsb dL_law_430 (fun v103 => ?_)
  refine r_cVI (pc := 431) C [.int v103] [] (z_KX.up (z_KX.zero hT)) (s_X9_bikes v2 v103) mt_X9_bikes zc_9 dL_law_431 ml_L_133 im_X9_bikes se_X9_bikes rfl rfl rfl (Nat.le_of_ble_eq_true rfl) ⟨Nat.le_of_ble_eq_true rfl, Nat.le_of_ble_eq_true rfl⟩ (fun r104 => ?_)
  refine r_sti (pc := 434) C [(0, .ref sb), (1, .ref (x_b X + v1)), (2, .ref (x_b X + v2)), (3, .ref (x_b X + v3)), (4, .int i), (5, .int r102), (6, .int r104)] dL_law_434 (by decide) rfl ?_
  refine r_aload_n (pc := 436) C dL_law_436 rfl rfl ?_
  refine r_cVI (pc := 437) C [] [] (z_KX.up (z_KX.zero hT)) (s_X9_thrown v2) mt_X9_thrown zc_9 dL_law_437 ml_L_116 im_X9_thrown se_X9_thrown rfl rfl rfl (Nat.le_of_ble_eq_true rfl) ⟨Nat.le_of_ble_eq_true rfl, Nat.le_of_ble_eq_true rfl⟩ (fun r105 => ?_)
  refine r_iload (pc := 440) C dL_law_440 rfl ?_
  refine r_icmp_eq (pc := 442) C (tgt := 447) dL_law_442 rfl (fun _ => ?_) (fun _ => ?_)
  · refine r_iload (pc := 447) C dL_law_447 rfl ?_
    refine r_if_ne (pc := 449) C (tgt := 464) dL_law_449 rfl (fun _ => ?_) (fun _ => ?_)
    · refine r_aload_n (pc := 452) C dL_law_452 rfl rfl ?_
      refine r_iconst (pc := 453) C dL_law_453 ki_0 ?_
      refine r_lald (pc := 454) C dL_law_454 (fun v106 => ?_)
      refine r_iload (pc := 455) C dL_law_455 rfl ?_
      refine r_i2l (pc := 457) C dL_law_457 ?_
      refine r_lcmp (pc := 458) C dL_law_458 ?_
      refine r_if_eq (pc := 459) C (tgt := 464) dL_law_459 rfl (fun _ => ?_) (fun _ => ?_)
      · refine r_goto (pc := 464) C (tgt := 2120) dL_law_464 rfl ?_
        refine r_inc (pc := 2120) C 6 [(0, .ref sb), (1, .ref (x_b X + v1)), (2, .ref (x_b X + v2)), (3, .ref (x_b X + v3)), (4, .int (i + 6))] dL_law_2120 rfl ki_6 (by decide) rfl ?_
        refine r_goto (pc := 2123) C (tgt := 23) dL_law_2123 rfl ?_
        refine r_sub [(0, .ref sb), (1, .ref (x_b X + v1)), (2, .ref (x_b X + v2)), (3, .ref (x_b X + v3)), (4, .int (i + 6))] rfl ?_
        exact r_br (τ := Int32) ((i + 6))
      · refine r_iconst (pc := 462) C dL_law_462 ki_0 ?_
        exact r_up (r_zret1 (pc := 463) C dL_law_463 (by decide))
    · refine r_goto (pc := 464) C (tgt := 2120) dL_law_464 rfl ?_
      refine r_inc (pc := 2120) C 6 [(0, .ref sb), (1, .ref (x_b X + v1)), (2, .ref (x_b X + v2)), (3, .ref (x_b X + v3)), (4, .int (i + 6))] dL_law_2120 rfl ki_6 (by decide) rfl ?_
      refine r_goto (pc := 2123) C (tgt := 23) dL_law_2123 rfl ?_
      refine r_sub [(0, .ref sb), (1, .ref (x_b X + v1)), (2, .ref (x_b X + v2)), (3, .ref (x_b X + v3)), (4, .int (i + 6))] rfl ?_
      exact r_br (τ := Int32) ((i + 6))
  · refine r_iconst (pc := 445) C dL_law_445 ki_0 ?_
    exact r_up (r_zret1 (pc := 446) C dL_law_446 (by decide))
noncomputable def p_L_c6 (xs : Nat → Int32) (L : Nat) (v1 v2 v3 : Nat) (i : Int32) : zP (Int32 ⊕ Int32) := (z_bd (z_xs xs L (i + 1)) (fun v101 => (z_bd (p_L_freeDocks v1 v101 v3) (fun r102 => (z_bd (z_xs xs L (i + 1)) (fun v103 => (z_bd (z_cv 9 v2 (p_X9_freeDocks v2 v103)) (fun r104 => (z_bd (z_cv 9 v2 (p_X9_thrown v2)) (fun r105 => (if r105 = r102 then (if r102 = 0 then (z_bd (z_aJ 15 v3 0) (fun v106 => (if (lg_cmp v106 ((r104 : Int32).toInt64)) = 0 then (z_pu (.inl ((i + 6)))) else (z_pu (.inr 0))))) else (z_pu (.inl ((i + 6))))) else (z_pu (.inr 0)))))))))))))
set_option maxHeartbeats 4000000 in
set_option maxRecDepth 100000 in
theorem s_L_c6 {X : zX} (C : z_Ok X x code 7 ret 2048 84000) (hT : z_Nt X) {sb L : Nat} {xs : Nat → Int32} (hX : va_X sb L xs (x_s X) (x_s X).heap) (hsb : sb < x_b X) (v1 v2 v3 : Nat) (i : Int32) : z_Sim X 7 (z_KT X 7 (z_K0 X z_ivI) 23 (fun (t0 : Int32) => [(0, .ref sb), (1, .ref (x_b X + v1)), (2, .ref (x_b X + v2)), (3, .ref (x_b X + v3)), (4, .int t0)]) (fun _ => [])) 467 [(0, .ref sb), (1, .ref (x_b X + v1)), (2, .ref (x_b X + v2)), (3, .ref (x_b X + v3)), (4, .int i)] [] (p_L_c6 xs L v1 v2 v3 i) := by
  unfold p_L_c6
  refine r_aload_n (pc := 467) C dL_law_467 rfl rfl ?_
  refine r_aload_n (pc := 468) C dL_law_468 rfl rfl ?_
  refine r_iload (pc := 469) C dL_law_469 rfl ?_
  refine r_iconst (pc := 471) C dL_law_471 ki_1 ?_
  refine r_iadd (pc := 472) C dL_law_472 ?_
  refine r_sld (pc := 473) C hX hsb dL_law_473 (fun v101 => ?_)
  refine r_aload_n (pc := 474) C dL_law_474 rfl rfl ?_
  refine r_cSH (pc := 475) C [.ref (x_b X + v1), .int v101, .ref (x_b X + v3)] [] (z_KX.up (z_KX.zero hT)) (s_L_freeDocks v1 v101 v3) mh_L_freeDocks dL_law_475 ml_L_134 sm_L_freeDocks rfl rfl rfl (Nat.le_of_ble_eq_true rfl) ⟨Nat.le_of_ble_eq_true rfl, Nat.le_of_ble_eq_true rfl⟩ (fun r102 => ?_)
  refine r_sti (pc := 478) C [(0, .ref sb), (1, .ref (x_b X + v1)), (2, .ref (x_b X + v2)), (3, .ref (x_b X + v3)), (4, .int i), (5, .int r102)] dL_law_478 (by decide) rfl ?_
  refine r_aload_n (pc := 480) C dL_law_480 rfl rfl ?_
  refine r_aload_n (pc := 481) C dL_law_481 rfl rfl ?_
  refine r_iload (pc := 482) C dL_law_482 rfl ?_
  refine r_iconst (pc := 484) C dL_law_484 ki_1 ?_
  refine r_iadd (pc := 485) C dL_law_485 ?_
  refine r_sld (pc := 486) C hX hsb dL_law_486 (fun v103 => ?_)
  refine r_cVI (pc := 487) C [.int v103] [] (z_KX.up (z_KX.zero hT)) (s_X9_freeDocks v2 v103) mt_X9_freeDocks zc_9 dL_law_487 ml_L_136 im_X9_freeDocks se_X9_freeDocks rfl rfl rfl (Nat.le_of_ble_eq_true rfl) ⟨Nat.le_of_ble_eq_true rfl, Nat.le_of_ble_eq_true rfl⟩ (fun r104 => ?_)
  refine r_sti (pc := 490) C [(0, .ref sb), (1, .ref (x_b X + v1)), (2, .ref (x_b X + v2)), (3, .ref (x_b X + v3)), (4, .int i), (5, .int r102), (6, .int r104)] dL_law_490 (by decide) rfl ?_
  refine r_aload_n (pc := 492) C dL_law_492 rfl rfl ?_
  refine r_cVI (pc := 493) C [] [] (z_KX.up (z_KX.zero hT)) (s_X9_thrown v2) mt_X9_thrown zc_9 dL_law_493 ml_L_116 im_X9_thrown se_X9_thrown rfl rfl rfl (Nat.le_of_ble_eq_true rfl) ⟨Nat.le_of_ble_eq_true rfl, Nat.le_of_ble_eq_true rfl⟩ (fun r105 => ?_)
  refine r_iload (pc := 496) C dL_law_496 rfl ?_
  refine r_icmp_eq (pc := 498) C (tgt := 503) dL_law_498 rfl (fun _ => ?_) (fun _ => ?_)
  · refine r_iload (pc := 503) C dL_law_503 rfl ?_
    refine r_if_ne (pc := 505) C (tgt := 520) dL_law_505 rfl (fun _ => ?_) (fun _ => ?_)
    · refine r_aload_n (pc := 508) C dL_law_508 rfl rfl ?_
      refine r_iconst (pc := 509) C dL_law_509 ki_0 ?_
      refine r_lald (pc := 510) C dL_law_510 (fun v106 => ?_)
      refine r_iload (pc := 511) C dL_law_511 rfl ?_
      refine r_i2l (pc := 513) C dL_law_513 ?_
      refine r_lcmp (pc := 514) C dL_law_514 ?_
      refine r_if_eq (pc := 515) C (tgt := 520) dL_law_515 rfl (fun _ => ?_) (fun _ => ?_)
      · refine r_goto (pc := 520) C (tgt := 2120) dL_law_520 rfl ?_
        refine r_inc (pc := 2120) C 6 [(0, .ref sb), (1, .ref (x_b X + v1)), (2, .ref (x_b X + v2)), (3, .ref (x_b X + v3)), (4, .int (i + 6))] dL_law_2120 rfl ki_6 (by decide) rfl ?_
        refine r_goto (pc := 2123) C (tgt := 23) dL_law_2123 rfl ?_
        refine r_sub [(0, .ref sb), (1, .ref (x_b X + v1)), (2, .ref (x_b X + v2)), (3, .ref (x_b X + v3)), (4, .int (i + 6))] rfl ?_
        exact r_br (τ := Int32) ((i + 6))
      · refine r_iconst (pc := 518) C dL_law_518 ki_0 ?_
        exact r_up (r_zret1 (pc := 519) C dL_law_519 (by decide))
    · refine r_goto (pc := 520) C (tgt := 2120) dL_law_520 rfl ?_
      refine r_inc (pc := 2120) C 6 [(0, .ref sb), (1, .ref (x_b X + v1)), (2, .ref (x_b X + v2)), (3, .ref (x_b X + v3)), (4, .int (i + 6))] dL_law_2120 rfl ki_6 (by decide) rfl ?_
      refine r_goto (pc := 2123) C (tgt := 23) dL_law_2123 rfl ?_
      refine r_sub [(0, .ref sb), (1, .ref (x_b X + v1)), (2, .ref (x_b X + v2)), (3, .ref (x_b X + v3)), (4, .int (i + 6))] rfl ?_
      exact r_br (τ := Int32) ((i + 6))
  · refine r_iconst (pc := 501) C dL_law_501 ki_0 ?_
    exact r_up (r_zret1 (pc := 502) C dL_law_502 (by decide))
noncomputable def p_L_c7 (xs : Nat → Int32) (L : Nat) (v1 v2 v3 : Nat) (i : Int32) : zP (Int32 ⊕ Int32) := (z_bd (z_xs xs L (i + 1)) (fun v101 => (z_bd (p_L_brokenDocks v1 v101 v3) (fun r102 => (z_bd (z_xs xs L (i + 1)) (fun v103 => (z_bd (z_cv 9 v2 (p_X9_brokenDocks v2 v103)) (fun r104 => (z_bd (z_cv 9 v2 (p_X9_thrown v2)) (fun r105 => (if r105 = r102 then (if r102 = 0 then (z_bd (z_aJ 15 v3 0) (fun v106 => (if (lg_cmp v106 ((r104 : Int32).toInt64)) = 0 then (z_pu (.inl ((i + 6)))) else (z_pu (.inr 0))))) else (z_pu (.inl ((i + 6))))) else (z_pu (.inr 0)))))))))))))
set_option maxHeartbeats 4000000 in
set_option maxRecDepth 100000 in
theorem s_L_c7 {X : zX} (C : z_Ok X x code 7 ret 2048 84000) (hT : z_Nt X) {sb L : Nat} {xs : Nat → Int32} (hX : va_X sb L xs (x_s X) (x_s X).heap) (hsb : sb < x_b X) (v1 v2 v3 : Nat) (i : Int32) : z_Sim X 7 (z_KT X 7 (z_K0 X z_ivI) 23 (fun (t0 : Int32) => [(0, .ref sb), (1, .ref (x_b X + v1)), (2, .ref (x_b X + v2)), (3, .ref (x_b X + v3)), (4, .int t0)]) (fun _ => [])) 523 [(0, .ref sb), (1, .ref (x_b X + v1)), (2, .ref (x_b X + v2)), (3, .ref (x_b X + v3)), (4, .int i)] [] (p_L_c7 xs L v1 v2 v3 i) := by
  unfold p_L_c7
  refine r_aload_n (pc := 523) C dL_law_523 rfl rfl ?_
  refine r_aload_n (pc := 524) C dL_law_524 rfl rfl ?_
  refine r_iload (pc := 525) C dL_law_525 rfl ?_
  refine r_iconst (pc := 527) C dL_law_527 ki_1 ?_
  refine r_iadd (pc := 528) C dL_law_528 ?_
  refine r_sld (pc := 529) C hX hsb dL_law_529 (fun v101 => ?_)
  refine r_aload_n (pc := 530) C dL_law_530 rfl rfl ?_
  refine r_cSH (pc := 531) C [.ref (x_b X + v1), .int v101, .ref (x_b X + v3)] [] (z_KX.up (z_KX.zero hT)) (s_L_brokenDocks v1 v101 v3) mh_L_brokenDocks dL_law_531 ml_L_137 sm_L_brokenDocks rfl rfl rfl (Nat.le_of_ble_eq_true rfl) ⟨Nat.le_of_ble_eq_true rfl, Nat.le_of_ble_eq_true rfl⟩ (fun r102 => ?_)
  refine r_sti (pc := 534) C [(0, .ref sb), (1, .ref (x_b X + v1)), (2, .ref (x_b X + v2)), (3, .ref (x_b X + v3)), (4, .int i), (5, .int r102)] dL_law_534 (by decide) rfl ?_
  refine r_aload_n (pc := 536) C dL_law_536 rfl rfl ?_
  refine r_aload_n (pc := 537) C dL_law_537 rfl rfl ?_
  refine r_iload (pc := 538) C dL_law_538 rfl ?_
  refine r_iconst (pc := 540) C dL_law_540 ki_1 ?_
  refine r_iadd (pc := 541) C dL_law_541 ?_
  refine r_sld (pc := 542) C hX hsb dL_law_542 (fun v103 => ?_)
  refine r_cVI (pc := 543) C [.int v103] [] (z_KX.up (z_KX.zero hT)) (s_X9_brokenDocks v2 v103) mt_X9_brokenDocks zc_9 dL_law_543 ml_L_139 im_X9_brokenDocks se_X9_brokenDocks rfl rfl rfl (Nat.le_of_ble_eq_true rfl) ⟨Nat.le_of_ble_eq_true rfl, Nat.le_of_ble_eq_true rfl⟩ (fun r104 => ?_)
  refine r_sti (pc := 546) C [(0, .ref sb), (1, .ref (x_b X + v1)), (2, .ref (x_b X + v2)), (3, .ref (x_b X + v3)), (4, .int i), (5, .int r102), (6, .int r104)] dL_law_546 (by decide) rfl ?_
  refine r_aload_n (pc := 548) C dL_law_548 rfl rfl ?_
  refine r_cVI (pc := 549) C [] [] (z_KX.up (z_KX.zero hT)) (s_X9_thrown v2) mt_X9_thrown zc_9 dL_law_549 ml_L_116 im_X9_thrown se_X9_thrown rfl rfl rfl (Nat.le_of_ble_eq_true rfl) ⟨Nat.le_of_ble_eq_true rfl, Nat.le_of_ble_eq_true rfl⟩ (fun r105 => ?_)
  refine r_iload (pc := 552) C dL_law_552 rfl ?_
  refine r_icmp_eq (pc := 554) C (tgt := 559) dL_law_554 rfl (fun _ => ?_) (fun _ => ?_)
  · refine r_iload (pc := 559) C dL_law_559 rfl ?_
    refine r_if_ne (pc := 561) C (tgt := 576) dL_law_561 rfl (fun _ => ?_) (fun _ => ?_)
    · refine r_aload_n (pc := 564) C dL_law_564 rfl rfl ?_
      refine r_iconst (pc := 565) C dL_law_565 ki_0 ?_
      refine r_lald (pc := 566) C dL_law_566 (fun v106 => ?_)
      refine r_iload (pc := 567) C dL_law_567 rfl ?_
      refine r_i2l (pc := 569) C dL_law_569 ?_
      refine r_lcmp (pc := 570) C dL_law_570 ?_
      refine r_if_eq (pc := 571) C (tgt := 576) dL_law_571 rfl (fun _ => ?_) (fun _ => ?_)
      · refine r_goto (pc := 576) C (tgt := 2120) dL_law_576 rfl ?_
        refine r_inc (pc := 2120) C 6 [(0, .ref sb), (1, .ref (x_b X + v1)), (2, .ref (x_b X + v2)), (3, .ref (x_b X + v3)), (4, .int (i + 6))] dL_law_2120 rfl ki_6 (by decide) rfl ?_
        refine r_goto (pc := 2123) C (tgt := 23) dL_law_2123 rfl ?_
        refine r_sub [(0, .ref sb), (1, .ref (x_b X + v1)), (2, .ref (x_b X + v2)), (3, .ref (x_b X + v3)), (4, .int (i + 6))] rfl ?_
        exact r_br (τ := Int32) ((i + 6))
      · refine r_iconst (pc := 574) C dL_law_574 ki_0 ?_
        exact r_up (r_zret1 (pc := 575) C dL_law_575 (by decide))
    · refine r_goto (pc := 576) C (tgt := 2120) dL_law_576 rfl ?_
      refine r_inc (pc := 2120) C 6 [(0, .ref sb), (1, .ref (x_b X + v1)), (2, .ref (x_b X + v2)), (3, .ref (x_b X + v3)), (4, .int (i + 6))] dL_law_2120 rfl ki_6 (by decide) rfl ?_
      refine r_goto (pc := 2123) C (tgt := 23) dL_law_2123 rfl ?_
      refine r_sub [(0, .ref sb), (1, .ref (x_b X + v1)), (2, .ref (x_b X + v2)), (3, .ref (x_b X + v3)), (4, .int (i + 6))] rfl ?_
      exact r_br (τ := Int32) ((i + 6))
  · refine r_iconst (pc := 557) C dL_law_557 ki_0 ?_
    exact r_up (r_zret1 (pc := 558) C dL_law_558 (by decide))
noncomputable def p_L_c8 (xs : Nat → Int32) (L : Nat) (v1 v2 v3 : Nat) (i : Int32) : zP (Int32 ⊕ Int32) := (z_bd (z_xs xs L (i + 1)) (fun v101 => (z_bd (p_L_isBalanced v1 v101 v3) (fun r102 => (z_bd (z_xs xs L (i + 1)) (fun v103 => (z_bd (z_cv 9 v2 (p_X9_isBalanced v2 v103)) (fun r104 => (z_bd (z_cv 9 v2 (p_X9_thrown v2)) (fun r105 => (if r105 = r102 then (if r102 = 0 then (z_bd (z_aJ 15 v3 0) (fun v106 => (z_jn (τ := Int64) (if r104 = 0 then (z_pu (.inl 0)) else (z_pu (.inl 1))) (fun t107 => (if (lg_cmp v106 t107) = 0 then (z_pu (.inl ((i + 6)))) else (z_pu (.inr 0))))))) else (z_pu (.inl ((i + 6))))) else (z_pu (.inr 0)))))))))))))
set_option maxHeartbeats 4000000 in
set_option maxRecDepth 100000 in
theorem s_L_c8 {X : zX} (C : z_Ok X x code 7 ret 2048 84000) (hT : z_Nt X) {sb L : Nat} {xs : Nat → Int32} (hX : va_X sb L xs (x_s X) (x_s X).heap) (hsb : sb < x_b X) (v1 v2 v3 : Nat) (i : Int32) : z_Sim X 7 (z_KT X 7 (z_K0 X z_ivI) 23 (fun (t0 : Int32) => [(0, .ref sb), (1, .ref (x_b X + v1)), (2, .ref (x_b X + v2)), (3, .ref (x_b X + v3)), (4, .int t0)]) (fun _ => [])) 579 [(0, .ref sb), (1, .ref (x_b X + v1)), (2, .ref (x_b X + v2)), (3, .ref (x_b X + v3)), (4, .int i)] [] (p_L_c8 xs L v1 v2 v3 i) := by
  unfold p_L_c8
  refine r_aload_n (pc := 579) C dL_law_579 rfl rfl ?_
  refine r_aload_n (pc := 580) C dL_law_580 rfl rfl ?_
  refine r_iload (pc := 581) C dL_law_581 rfl ?_
  refine r_iconst (pc := 583) C dL_law_583 ki_1 ?_
  refine r_iadd (pc := 584) C dL_law_584 ?_
  refine r_sld (pc := 585) C hX hsb dL_law_585 (fun v101 => ?_)
  refine r_aload_n (pc := 586) C dL_law_586 rfl rfl ?_
  refine r_cSH (pc := 587) C [.ref (x_b X + v1), .int v101, .ref (x_b X + v3)] [] (z_KX.up (z_KX.zero hT)) (s_L_isBalanced v1 v101 v3) mh_L_isBalanced dL_law_587 ml_L_140 sm_L_isBalanced rfl rfl rfl (Nat.le_of_ble_eq_true rfl) ⟨Nat.le_of_ble_eq_true rfl, Nat.le_of_ble_eq_true rfl⟩ (fun r102 => ?_)
  refine r_sti (pc := 590) C [(0, .ref sb), (1, .ref (x_b X + v1)), (2, .ref (x_b X + v2)), (3, .ref (x_b X + v3)), (4, .int i), (5, .int r102)] dL_law_590 (by decide) rfl ?_
  refine r_aload_n (pc := 592) C dL_law_592 rfl rfl ?_
  refine r_aload_n (pc := 593) C dL_law_593 rfl rfl ?_
  refine r_iload (pc := 594) C dL_law_594 rfl ?_
  refine r_iconst (pc := 596) C dL_law_596 ki_1 ?_
  refine r_iadd (pc := 597) C dL_law_597 ?_
  refine r_sld (pc := 598) C hX hsb dL_law_598 (fun v103 => ?_)
  refine r_cVI (pc := 599) C [.int v103] [] (z_KX.up (z_KX.zero hT)) (s_X9_isBalanced v2 v103) mt_X9_isBalanced zc_9 dL_law_599 ml_L_142 im_X9_isBalanced se_X9_isBalanced rfl rfl rfl (Nat.le_of_ble_eq_true rfl) ⟨Nat.le_of_ble_eq_true rfl, Nat.le_of_ble_eq_true rfl⟩ (fun r104 => ?_)
  refine r_sti (pc := 602) C [(0, .ref sb), (1, .ref (x_b X + v1)), (2, .ref (x_b X + v2)), (3, .ref (x_b X + v3)), (4, .int i), (5, .int r102), (6, .int r104)] dL_law_602 (by decide) rfl ?_
  refine r_aload_n (pc := 604) C dL_law_604 rfl rfl ?_
  refine r_cVI (pc := 605) C [] [] (z_KX.up (z_KX.zero hT)) (s_X9_thrown v2) mt_X9_thrown zc_9 dL_law_605 ml_L_116 im_X9_thrown se_X9_thrown rfl rfl rfl (Nat.le_of_ble_eq_true rfl) ⟨Nat.le_of_ble_eq_true rfl, Nat.le_of_ble_eq_true rfl⟩ (fun r105 => ?_)
  refine r_iload (pc := 608) C dL_law_608 rfl ?_
  refine r_icmp_eq (pc := 610) C (tgt := 615) dL_law_610 rfl (fun _ => ?_) (fun _ => ?_)
  · refine r_iload (pc := 615) C dL_law_615 rfl ?_
    refine r_if_ne (pc := 617) C (tgt := 639) dL_law_617 rfl (fun _ => ?_) (fun _ => ?_)
    · refine r_aload_n (pc := 620) C dL_law_620 rfl rfl ?_
      refine r_iconst (pc := 621) C dL_law_621 ki_0 ?_
      refine r_lald (pc := 622) C dL_law_622 (fun v106 => ?_)
      refine r_iload (pc := 623) C dL_law_623 rfl ?_
      refine r_jn 633 (fun (t107 : Int64) => [(0, .ref sb), (1, .ref (x_b X + v1)), (2, .ref (x_b X + v2)), (3, .ref (x_b X + v3)), (4, .int i)]) (fun (t107 : Int64) => [.long t107, .long v106]) (fun t107 => ?_) ?_
      · refine r_lcmp (pc := 633) C dL_law_633 ?_
        refine r_if_eq (pc := 634) C (tgt := 639) dL_law_634 rfl (fun _ => ?_) (fun _ => ?_)
        · refine r_goto (pc := 639) C (tgt := 2120) dL_law_639 rfl ?_
          refine r_inc (pc := 2120) C 6 [(0, .ref sb), (1, .ref (x_b X + v1)), (2, .ref (x_b X + v2)), (3, .ref (x_b X + v3)), (4, .int (i + 6))] dL_law_2120 rfl ki_6 (by decide) rfl ?_
          refine r_goto (pc := 2123) C (tgt := 23) dL_law_2123 rfl ?_
          refine r_sub [(0, .ref sb), (1, .ref (x_b X + v1)), (2, .ref (x_b X + v2)), (3, .ref (x_b X + v3)), (4, .int (i + 6))] rfl ?_
          exact r_br (τ := Int32) ((i + 6))
        · refine r_iconst (pc := 637) C dL_law_637 ki_0 ?_
          exact r_up (r_zret1 (pc := 638) C dL_law_638 (by decide))
      · refine r_if_eq (pc := 625) C (tgt := 632) dL_law_625 rfl (fun _ => ?_) (fun _ => ?_)
        · refine r_lconst (pc := 632) C dL_law_632 (v := 0) (by decide) ?_
          refine r_sub [(0, .ref sb), (1, .ref (x_b X + v1)), (2, .ref (x_b X + v2)), (3, .ref (x_b X + v3)), (4, .int i)] rfl ?_
          exact r_br (τ := Int64) 0
        · refine r_lconst (pc := 628) C dL_law_628 (v := 1) (by decide) ?_
          refine r_goto (pc := 629) C (tgt := 633) dL_law_629 rfl ?_
          refine r_sub [(0, .ref sb), (1, .ref (x_b X + v1)), (2, .ref (x_b X + v2)), (3, .ref (x_b X + v3)), (4, .int i)] rfl ?_
          exact r_br (τ := Int64) 1
    · refine r_goto (pc := 639) C (tgt := 2120) dL_law_639 rfl ?_
      refine r_inc (pc := 2120) C 6 [(0, .ref sb), (1, .ref (x_b X + v1)), (2, .ref (x_b X + v2)), (3, .ref (x_b X + v3)), (4, .int (i + 6))] dL_law_2120 rfl ki_6 (by decide) rfl ?_
      refine r_goto (pc := 2123) C (tgt := 23) dL_law_2123 rfl ?_
      refine r_sub [(0, .ref sb), (1, .ref (x_b X + v1)), (2, .ref (x_b X + v2)), (3, .ref (x_b X + v3)), (4, .int (i + 6))] rfl ?_
      exact r_br (τ := Int32) ((i + 6))
  · refine r_iconst (pc := 613) C dL_law_613 ki_0 ?_
    exact r_up (r_zret1 (pc := 614) C dL_law_614 (by decide))
noncomputable def p_L_c9 (xs : Nat → Int32) (L : Nat) (v1 v2 v3 : Nat) (i : Int32) : zP (Int32 ⊕ Int32) := (z_bd (z_cv 8 v1 (p_X8_imbalance v1)) (fun r101 => (z_bd (z_cv 9 v2 (p_X9_imbalance v2)) (fun r102 => (if r101 = r102 then (z_pu (.inl ((i + 6)))) else (z_pu (.inr 0)))))))
set_option maxHeartbeats 4000000 in
set_option maxRecDepth 100000 in
theorem s_L_c9 {X : zX} (C : z_Ok X x code 7 ret 2048 84000) (hT : z_Nt X) {sb L : Nat} {xs : Nat → Int32} (hX : va_X sb L xs (x_s X) (x_s X).heap) (hsb : sb < x_b X) (v1 v2 v3 : Nat) (i : Int32) : z_Sim X 7 (z_KT X 7 (z_K0 X z_ivI) 23 (fun (t0 : Int32) => [(0, .ref sb), (1, .ref (x_b X + v1)), (2, .ref (x_b X + v2)), (3, .ref (x_b X + v3)), (4, .int t0)]) (fun _ => [])) 642 [(0, .ref sb), (1, .ref (x_b X + v1)), (2, .ref (x_b X + v2)), (3, .ref (x_b X + v3)), (4, .int i)] [] (p_L_c9 xs L v1 v2 v3 i) := by
  unfold p_L_c9
  refine r_aload_n (pc := 642) C dL_law_642 rfl rfl ?_
  refine r_cVI (pc := 643) C [] [] (z_KX.up (z_KX.zero hT)) (s_X8_imbalance v1) mt_X8_imbalance zc_8 dL_law_643 ml_L_143 im_X8_imbalance se_X8_imbalance rfl rfl rfl (Nat.le_of_ble_eq_true rfl) ⟨Nat.le_of_ble_eq_true rfl, Nat.le_of_ble_eq_true rfl⟩ (fun r101 => ?_)
  refine r_aload_n (pc := 646) C dL_law_646 rfl rfl ?_
  refine r_cVI (pc := 647) C [] [.int r101] (z_KX.up (z_KX.zero hT)) (s_X9_imbalance v2) mt_X9_imbalance zc_9 dL_law_647 ml_L_146 im_X9_imbalance se_X9_imbalance rfl rfl rfl (Nat.le_of_ble_eq_true rfl) ⟨Nat.le_of_ble_eq_true rfl, Nat.le_of_ble_eq_true rfl⟩ (fun r102 => ?_)
  refine r_icmp_eq (pc := 650) C (tgt := 2120) dL_law_650 rfl (fun _ => ?_) (fun _ => ?_)
  · refine r_inc (pc := 2120) C 6 [(0, .ref sb), (1, .ref (x_b X + v1)), (2, .ref (x_b X + v2)), (3, .ref (x_b X + v3)), (4, .int (i + 6))] dL_law_2120 rfl ki_6 (by decide) rfl ?_
    refine r_goto (pc := 2123) C (tgt := 23) dL_law_2123 rfl ?_
    refine r_sub [(0, .ref sb), (1, .ref (x_b X + v1)), (2, .ref (x_b X + v2)), (3, .ref (x_b X + v3)), (4, .int (i + 6))] rfl ?_
    exact r_br (τ := Int32) ((i + 6))
  · refine r_iconst (pc := 653) C dL_law_653 ki_0 ?_
    exact r_up (r_zret1 (pc := 654) C dL_law_654 (by decide))
noncomputable def p_L_c10 (xs : Nat → Int32) (L : Nat) (v1 v2 v3 : Nat) (i : Int32) : zP (Int32 ⊕ Int32) := (z_bd (z_xs xs L (i + 1)) (fun v101 => (z_bd (z_xs xs L (i + 2)) (fun v102 => (z_jn (τ := Int32) (if v102 = 0 then (z_pu (.inl 0)) else (z_pu (.inl 1))) (fun t103 => (z_bd (p_L_nearest v1 v101 t103 v3) (fun r104 => (z_bd (z_xs xs L (i + 1)) (fun v105 => (z_bd (z_xs xs L (i + 2)) (fun v106 => (z_jn (τ := Int32) (if v106 = 0 then (z_pu (.inl 0)) else (z_pu (.inl 1))) (fun t107 => (z_bd (z_cv 9 v2 (p_X9_nearest v2 v105 t107)) (fun r108 => (z_bd (z_cv 9 v2 (p_X9_thrown v2)) (fun r109 => (if r109 = r104 then (if r104 = 0 then (z_bd (z_aJ 15 v3 0) (fun v110 => (if (lg_cmp v110 ((r108 : Int32).toInt64)) = 0 then (z_pu (.inl ((i + 6)))) else (z_pu (.inr 0))))) else (z_pu (.inl ((i + 6))))) else (z_pu (.inr 0)))))))))))))))))))))
set_option maxHeartbeats 4000000 in
set_option maxRecDepth 100000 in
theorem s_L_c10 {X : zX} (C : z_Ok X x code 7 ret 2048 84000) (hT : z_Nt X) {sb L : Nat} {xs : Nat → Int32} (hX : va_X sb L xs (x_s X) (x_s X).heap) (hsb : sb < x_b X) (v1 v2 v3 : Nat) (i : Int32) : z_Sim X 7 (z_KT X 7 (z_K0 X z_ivI) 23 (fun (t0 : Int32) => [(0, .ref sb), (1, .ref (x_b X + v1)), (2, .ref (x_b X + v2)), (3, .ref (x_b X + v3)), (4, .int t0)]) (fun _ => [])) 655 [(0, .ref sb), (1, .ref (x_b X + v1)), (2, .ref (x_b X + v2)), (3, .ref (x_b X + v3)), (4, .int i)] [] (p_L_c10 xs L v1 v2 v3 i) := by
  unfold p_L_c10
  refine r_aload_n (pc := 655) C dL_law_655 rfl rfl ?_
  refine r_aload_n (pc := 656) C dL_law_656 rfl rfl ?_
  refine r_iload (pc := 657) C dL_law_657 rfl ?_
  refine r_iconst (pc := 659) C dL_law_659 ki_1 ?_
  refine r_iadd (pc := 660) C dL_law_660 ?_
  refine r_sld (pc := 661) C hX hsb dL_law_661 (fun v101 => ?_)
  refine r_aload_n (pc := 662) C dL_law_662 rfl rfl ?_
  refine r_iload (pc := 663) C dL_law_663 rfl ?_
  refine r_iconst (pc := 665) C dL_law_665 ki_2 ?_
  refine r_iadd (pc := 666) C dL_law_666 ?_
  refine r_sld (pc := 667) C hX hsb dL_law_667 (fun v102 => ?_)
  refine r_jn 676 (fun (t103 : Int32) => [(0, .ref sb), (1, .ref (x_b X + v1)), (2, .ref (x_b X + v2)), (3, .ref (x_b X + v3)), (4, .int i)]) (fun (t103 : Int32) => [.int t103, .int v101, .ref (x_b X + v1)]) (fun t103 => ?_) ?_
  · refine r_aload_n (pc := 676) C dL_law_676 rfl rfl ?_
    refine r_cSH (pc := 677) C [.ref (x_b X + v1), .int v101, .int t103, .ref (x_b X + v3)] [] (z_KX.up (z_KX.zero hT)) (s_L_nearest v1 v101 t103 v3) mh_L_nearest dL_law_677 ml_L_147 sm_L_nearest rfl rfl rfl (Nat.le_of_ble_eq_true rfl) ⟨Nat.le_of_ble_eq_true rfl, Nat.le_of_ble_eq_true rfl⟩ (fun r104 => ?_)
    refine r_sti (pc := 680) C [(0, .ref sb), (1, .ref (x_b X + v1)), (2, .ref (x_b X + v2)), (3, .ref (x_b X + v3)), (4, .int i), (5, .int r104)] dL_law_680 (by decide) rfl ?_
    refine r_aload_n (pc := 682) C dL_law_682 rfl rfl ?_
    refine r_aload_n (pc := 683) C dL_law_683 rfl rfl ?_
    refine r_iload (pc := 684) C dL_law_684 rfl ?_
    refine r_iconst (pc := 686) C dL_law_686 ki_1 ?_
    refine r_iadd (pc := 687) C dL_law_687 ?_
    refine r_sld (pc := 688) C hX hsb dL_law_688 (fun v105 => ?_)
    refine r_aload_n (pc := 689) C dL_law_689 rfl rfl ?_
    refine r_iload (pc := 690) C dL_law_690 rfl ?_
    refine r_iconst (pc := 692) C dL_law_692 ki_2 ?_
    refine r_iadd (pc := 693) C dL_law_693 ?_
    refine r_sld (pc := 694) C hX hsb dL_law_694 (fun v106 => ?_)
    refine r_jn 703 (fun (t107 : Int32) => [(0, .ref sb), (1, .ref (x_b X + v1)), (2, .ref (x_b X + v2)), (3, .ref (x_b X + v3)), (4, .int i), (5, .int r104)]) (fun (t107 : Int32) => [.int t107, .int v105, .ref (x_b X + v2)]) (fun t107 => ?_) ?_
    · refine r_cVI (pc := 703) C [.int v105, .int t107] [] (z_KX.up (z_KX.zero hT)) (s_X9_nearest v2 v105 t107) mt_X9_nearest zc_9 dL_law_703 ml_L_150 im_X9_nearest se_X9_nearest rfl rfl rfl (Nat.le_of_ble_eq_true rfl) ⟨Nat.le_of_ble_eq_true rfl, Nat.le_of_ble_eq_true rfl⟩ (fun r108 => ?_)
      refine r_sti (pc := 706) C [(0, .ref sb), (1, .ref (x_b X + v1)), (2, .ref (x_b X + v2)), (3, .ref (x_b X + v3)), (4, .int i), (5, .int r104), (6, .int r108)] dL_law_706 (by decide) rfl ?_
      refine r_aload_n (pc := 708) C dL_law_708 rfl rfl ?_
      refine r_cVI (pc := 709) C [] [] (z_KX.up (z_KX.zero hT)) (s_X9_thrown v2) mt_X9_thrown zc_9 dL_law_709 ml_L_116 im_X9_thrown se_X9_thrown rfl rfl rfl (Nat.le_of_ble_eq_true rfl) ⟨Nat.le_of_ble_eq_true rfl, Nat.le_of_ble_eq_true rfl⟩ (fun r109 => ?_)
      refine r_iload (pc := 712) C dL_law_712 rfl ?_
      refine r_icmp_eq (pc := 714) C (tgt := 719) dL_law_714 rfl (fun _ => ?_) (fun _ => ?_)
      · refine r_iload (pc := 719) C dL_law_719 rfl ?_
        refine r_if_ne (pc := 721) C (tgt := 736) dL_law_721 rfl (fun _ => ?_) (fun _ => ?_)
        · refine r_aload_n (pc := 724) C dL_law_724 rfl rfl ?_
          refine r_iconst (pc := 725) C dL_law_725 ki_0 ?_
          refine r_lald (pc := 726) C dL_law_726 (fun v110 => ?_)
          refine r_iload (pc := 727) C dL_law_727 rfl ?_
          refine r_i2l (pc := 729) C dL_law_729 ?_
          refine r_lcmp (pc := 730) C dL_law_730 ?_
          refine r_if_eq (pc := 731) C (tgt := 736) dL_law_731 rfl (fun _ => ?_) (fun _ => ?_)
          · refine r_goto (pc := 736) C (tgt := 2120) dL_law_736 rfl ?_
            refine r_inc (pc := 2120) C 6 [(0, .ref sb), (1, .ref (x_b X + v1)), (2, .ref (x_b X + v2)), (3, .ref (x_b X + v3)), (4, .int (i + 6))] dL_law_2120 rfl ki_6 (by decide) rfl ?_
            refine r_goto (pc := 2123) C (tgt := 23) dL_law_2123 rfl ?_
            refine r_sub [(0, .ref sb), (1, .ref (x_b X + v1)), (2, .ref (x_b X + v2)), (3, .ref (x_b X + v3)), (4, .int (i + 6))] rfl ?_
            exact r_br (τ := Int32) ((i + 6))
          · refine r_iconst (pc := 734) C dL_law_734 ki_0 ?_
            exact r_up (r_zret1 (pc := 735) C dL_law_735 (by decide))
        · refine r_goto (pc := 736) C (tgt := 2120) dL_law_736 rfl ?_
          refine r_inc (pc := 2120) C 6 [(0, .ref sb), (1, .ref (x_b X + v1)), (2, .ref (x_b X + v2)), (3, .ref (x_b X + v3)), (4, .int (i + 6))] dL_law_2120 rfl ki_6 (by decide) rfl ?_
          refine r_goto (pc := 2123) C (tgt := 23) dL_law_2123 rfl ?_
          refine r_sub [(0, .ref sb), (1, .ref (x_b X + v1)), (2, .ref (x_b X + v2)), (3, .ref (x_b X + v3)), (4, .int (i + 6))] rfl ?_
          exact r_br (τ := Int32) ((i + 6))
      · refine r_iconst (pc := 717) C dL_law_717 ki_0 ?_
        exact r_up (r_zret1 (pc := 718) C dL_law_718 (by decide))
    · refine r_if_eq (pc := 695) C (tgt := 702) dL_law_695 rfl (fun _ => ?_) (fun _ => ?_)
      · refine r_iconst (pc := 702) C dL_law_702 ki_0 ?_
        refine r_sub [(0, .ref sb), (1, .ref (x_b X + v1)), (2, .ref (x_b X + v2)), (3, .ref (x_b X + v3)), (4, .int i), (5, .int r104)] rfl ?_
        exact r_br (τ := Int32) 0
      · refine r_iconst (pc := 698) C dL_law_698 ki_1 ?_
        refine r_goto (pc := 699) C (tgt := 703) dL_law_699 rfl ?_
        refine r_sub [(0, .ref sb), (1, .ref (x_b X + v1)), (2, .ref (x_b X + v2)), (3, .ref (x_b X + v3)), (4, .int i), (5, .int r104)] rfl ?_
        exact r_br (τ := Int32) 1
  · refine r_if_eq (pc := 668) C (tgt := 675) dL_law_668 rfl (fun _ => ?_) (fun _ => ?_)
    · refine r_iconst (pc := 675) C dL_law_675 ki_0 ?_
      refine r_sub [(0, .ref sb), (1, .ref (x_b X + v1)), (2, .ref (x_b X + v2)), (3, .ref (x_b X + v3)), (4, .int i)] rfl ?_
      exact r_br (τ := Int32) 0
    · refine r_iconst (pc := 671) C dL_law_671 ki_1 ?_
      refine r_goto (pc := 672) C (tgt := 676) dL_law_672 rfl ?_
      refine r_sub [(0, .ref sb), (1, .ref (x_b X + v1)), (2, .ref (x_b X + v2)), (3, .ref (x_b X + v3)), (4, .int i)] rfl ?_
      exact r_br (τ := Int32) 1
noncomputable def p_L_c11 (xs : Nat → Int32) (L : Nat) (v1 v2 v3 : Nat) (i : Int32) : zP (Int32 ⊕ Int32) := (z_bd (z_xs xs L (i + 1)) (fun v101 => (z_bd (z_xs xs L (i + 2)) (fun v102 => (z_bd (p_L_rideMinutes v1 v101 v102 v3) (fun r103 => (z_bd (z_xs xs L (i + 1)) (fun v104 => (z_bd (z_xs xs L (i + 2)) (fun v105 => (z_bd (z_cv 9 v2 (p_X9_rideMinutes v2 v104 v105)) (fun r106 => (z_bd (z_cv 9 v2 (p_X9_thrown v2)) (fun r107 => (if r107 = r103 then (if r103 = 0 then (z_bd (z_aJ 15 v3 0) (fun v108 => (if (lg_cmp v108 ((r106 : Int32).toInt64)) = 0 then (z_pu (.inl ((i + 6)))) else (z_pu (.inr 0))))) else (z_pu (.inl ((i + 6))))) else (z_pu (.inr 0)))))))))))))))))
set_option maxHeartbeats 4000000 in
set_option maxRecDepth 100000 in
theorem s_L_c11 {X : zX} (C : z_Ok X x code 7 ret 2048 84000) (hT : z_Nt X) {sb L : Nat} {xs : Nat → Int32} (hX : va_X sb L xs (x_s X) (x_s X).heap) (hsb : sb < x_b X) (v1 v2 v3 : Nat) (i : Int32) : z_Sim X 7 (z_KT X 7 (z_K0 X z_ivI) 23 (fun (t0 : Int32) => [(0, .ref sb), (1, .ref (x_b X + v1)), (2, .ref (x_b X + v2)), (3, .ref (x_b X + v3)), (4, .int t0)]) (fun _ => [])) 739 [(0, .ref sb), (1, .ref (x_b X + v1)), (2, .ref (x_b X + v2)), (3, .ref (x_b X + v3)), (4, .int i)] [] (p_L_c11 xs L v1 v2 v3 i) := by
  unfold p_L_c11
  refine r_aload_n (pc := 739) C dL_law_739 rfl rfl ?_
  refine r_aload_n (pc := 740) C dL_law_740 rfl rfl ?_
  refine r_iload (pc := 741) C dL_law_741 rfl ?_
  refine r_iconst (pc := 743) C dL_law_743 ki_1 ?_
  refine r_iadd (pc := 744) C dL_law_744 ?_
  refine r_sld (pc := 745) C hX hsb dL_law_745 (fun v101 => ?_)
  refine r_aload_n (pc := 746) C dL_law_746 rfl rfl ?_
  refine r_iload (pc := 747) C dL_law_747 rfl ?_
  refine r_iconst (pc := 749) C dL_law_749 ki_2 ?_
  refine r_iadd (pc := 750) C dL_law_750 ?_
  refine r_sld (pc := 751) C hX hsb dL_law_751 (fun v102 => ?_)
  refine r_aload_n (pc := 752) C dL_law_752 rfl rfl ?_
  refine r_cSH (pc := 753) C [.ref (x_b X + v1), .int v101, .int v102, .ref (x_b X + v3)] [] (z_KX.up (z_KX.zero hT)) (s_L_rideMinutes v1 v101 v102 v3) mh_L_rideMinutes dL_law_753 ml_L_151 sm_L_rideMinutes rfl rfl rfl (Nat.le_of_ble_eq_true rfl) ⟨Nat.le_of_ble_eq_true rfl, Nat.le_of_ble_eq_true rfl⟩ (fun r103 => ?_)
  refine r_sti (pc := 756) C [(0, .ref sb), (1, .ref (x_b X + v1)), (2, .ref (x_b X + v2)), (3, .ref (x_b X + v3)), (4, .int i), (5, .int r103)] dL_law_756 (by decide) rfl ?_
  refine r_aload_n (pc := 758) C dL_law_758 rfl rfl ?_
  refine r_aload_n (pc := 759) C dL_law_759 rfl rfl ?_
  refine r_iload (pc := 760) C dL_law_760 rfl ?_
  refine r_iconst (pc := 762) C dL_law_762 ki_1 ?_
  refine r_iadd (pc := 763) C dL_law_763 ?_
  refine r_sld (pc := 764) C hX hsb dL_law_764 (fun v104 => ?_)
  refine r_aload_n (pc := 765) C dL_law_765 rfl rfl ?_
  refine r_iload (pc := 766) C dL_law_766 rfl ?_
  refine r_iconst (pc := 768) C dL_law_768 ki_2 ?_
  refine r_iadd (pc := 769) C dL_law_769 ?_
  refine r_sld (pc := 770) C hX hsb dL_law_770 (fun v105 => ?_)
  refine r_cVI (pc := 771) C [.int v104, .int v105] [] (z_KX.up (z_KX.zero hT)) (s_X9_rideMinutes v2 v104 v105) mt_X9_rideMinutes zc_9 dL_law_771 ml_L_154 im_X9_rideMinutes se_X9_rideMinutes rfl rfl rfl (Nat.le_of_ble_eq_true rfl) ⟨Nat.le_of_ble_eq_true rfl, Nat.le_of_ble_eq_true rfl⟩ (fun r106 => ?_)
  refine r_sti (pc := 774) C [(0, .ref sb), (1, .ref (x_b X + v1)), (2, .ref (x_b X + v2)), (3, .ref (x_b X + v3)), (4, .int i), (5, .int r103), (6, .int r106)] dL_law_774 (by decide) rfl ?_
  refine r_aload_n (pc := 776) C dL_law_776 rfl rfl ?_
  refine r_cVI (pc := 777) C [] [] (z_KX.up (z_KX.zero hT)) (s_X9_thrown v2) mt_X9_thrown zc_9 dL_law_777 ml_L_116 im_X9_thrown se_X9_thrown rfl rfl rfl (Nat.le_of_ble_eq_true rfl) ⟨Nat.le_of_ble_eq_true rfl, Nat.le_of_ble_eq_true rfl⟩ (fun r107 => ?_)
  refine r_iload (pc := 780) C dL_law_780 rfl ?_
  refine r_icmp_eq (pc := 782) C (tgt := 787) dL_law_782 rfl (fun _ => ?_) (fun _ => ?_)
  · refine r_iload (pc := 787) C dL_law_787 rfl ?_
    refine r_if_ne (pc := 789) C (tgt := 804) dL_law_789 rfl (fun _ => ?_) (fun _ => ?_)
    · refine r_aload_n (pc := 792) C dL_law_792 rfl rfl ?_
      refine r_iconst (pc := 793) C dL_law_793 ki_0 ?_
      refine r_lald (pc := 794) C dL_law_794 (fun v108 => ?_)
      refine r_iload (pc := 795) C dL_law_795 rfl ?_
      refine r_i2l (pc := 797) C dL_law_797 ?_
      refine r_lcmp (pc := 798) C dL_law_798 ?_
      refine r_if_eq (pc := 799) C (tgt := 804) dL_law_799 rfl (fun _ => ?_) (fun _ => ?_)
      · refine r_goto (pc := 804) C (tgt := 2120) dL_law_804 rfl ?_
        refine r_inc (pc := 2120) C 6 [(0, .ref sb), (1, .ref (x_b X + v1)), (2, .ref (x_b X + v2)), (3, .ref (x_b X + v3)), (4, .int (i + 6))] dL_law_2120 rfl ki_6 (by decide) rfl ?_
        refine r_goto (pc := 2123) C (tgt := 23) dL_law_2123 rfl ?_
        refine r_sub [(0, .ref sb), (1, .ref (x_b X + v1)), (2, .ref (x_b X + v2)), (3, .ref (x_b X + v3)), (4, .int (i + 6))] rfl ?_
        exact r_br (τ := Int32) ((i + 6))
      · refine r_iconst (pc := 802) C dL_law_802 ki_0 ?_
        exact r_up (r_zret1 (pc := 803) C dL_law_803 (by decide))
    · refine r_goto (pc := 804) C (tgt := 2120) dL_law_804 rfl ?_
      refine r_inc (pc := 2120) C 6 [(0, .ref sb), (1, .ref (x_b X + v1)), (2, .ref (x_b X + v2)), (3, .ref (x_b X + v3)), (4, .int (i + 6))] dL_law_2120 rfl ki_6 (by decide) rfl ?_
      refine r_goto (pc := 2123) C (tgt := 23) dL_law_2123 rfl ?_
      refine r_sub [(0, .ref sb), (1, .ref (x_b X + v1)), (2, .ref (x_b X + v2)), (3, .ref (x_b X + v3)), (4, .int (i + 6))] rfl ?_
      exact r_br (τ := Int32) ((i + 6))
  · refine r_iconst (pc := 785) C dL_law_785 ki_0 ?_
    exact r_up (r_zret1 (pc := 786) C dL_law_786 (by decide))
noncomputable def p_L_c12 (xs : Nat → Int32) (L : Nat) (v1 v2 v3 : Nat) (i : Int32) : zP (Int32 ⊕ Int32) := (z_bd (z_xs xs L (i + 1)) (fun v101 => (z_bd (z_xs xs L (i + 2)) (fun v102 => (z_bd (p_L_quote v1 v101 v102 v3) (fun r103 => (z_bd (z_xs xs L (i + 1)) (fun v104 => (z_bd (z_xs xs L (i + 2)) (fun v105 => (z_bd (z_cv 9 v2 (p_X9_quote v2 v104 v105)) (fun r106 => (z_bd (z_cv 9 v2 (p_X9_thrown v2)) (fun r107 => (if r107 = r103 then (if r103 = 0 then (z_bd (z_aJ 15 v3 0) (fun v108 => (if (lg_cmp v108 ((r106 : Int32).toInt64)) = 0 then (z_pu (.inl ((i + 6)))) else (z_pu (.inr 0))))) else (z_pu (.inl ((i + 6))))) else (z_pu (.inr 0)))))))))))))))))
set_option maxHeartbeats 4000000 in
set_option maxRecDepth 100000 in
theorem s_L_c12 {X : zX} (C : z_Ok X x code 7 ret 2048 84000) (hT : z_Nt X) {sb L : Nat} {xs : Nat → Int32} (hX : va_X sb L xs (x_s X) (x_s X).heap) (hsb : sb < x_b X) (v1 v2 v3 : Nat) (i : Int32) : z_Sim X 7 (z_KT X 7 (z_K0 X z_ivI) 23 (fun (t0 : Int32) => [(0, .ref sb), (1, .ref (x_b X + v1)), (2, .ref (x_b X + v2)), (3, .ref (x_b X + v3)), (4, .int t0)]) (fun _ => [])) 807 [(0, .ref sb), (1, .ref (x_b X + v1)), (2, .ref (x_b X + v2)), (3, .ref (x_b X + v3)), (4, .int i)] [] (p_L_c12 xs L v1 v2 v3 i) := by
  unfold p_L_c12
  refine r_aload_n (pc := 807) C dL_law_807 rfl rfl ?_
  refine r_aload_n (pc := 808) C dL_law_808 rfl rfl ?_
  refine r_iload (pc := 809) C dL_law_809 rfl ?_
  refine r_iconst (pc := 811) C dL_law_811 ki_1 ?_
  refine r_iadd (pc := 812) C dL_law_812 ?_
  refine r_sld (pc := 813) C hX hsb dL_law_813 (fun v101 => ?_)
  refine r_aload_n (pc := 814) C dL_law_814 rfl rfl ?_
  refine r_iload (pc := 815) C dL_law_815 rfl ?_
  refine r_iconst (pc := 817) C dL_law_817 ki_2 ?_
  refine r_iadd (pc := 818) C dL_law_818 ?_
  refine r_sld (pc := 819) C hX hsb dL_law_819 (fun v102 => ?_)
  refine r_aload_n (pc := 820) C dL_law_820 rfl rfl ?_
  refine r_cSH (pc := 821) C [.ref (x_b X + v1), .int v101, .int v102, .ref (x_b X + v3)] [] (z_KX.up (z_KX.zero hT)) (s_L_quote v1 v101 v102 v3) mh_L_quote dL_law_821 ml_L_155 sm_L_quote rfl rfl rfl (Nat.le_of_ble_eq_true rfl) ⟨Nat.le_of_ble_eq_true rfl, Nat.le_of_ble_eq_true rfl⟩ (fun r103 => ?_)
  refine r_sti (pc := 824) C [(0, .ref sb), (1, .ref (x_b X + v1)), (2, .ref (x_b X + v2)), (3, .ref (x_b X + v3)), (4, .int i), (5, .int r103)] dL_law_824 (by decide) rfl ?_
  refine r_aload_n (pc := 826) C dL_law_826 rfl rfl ?_
  refine r_aload_n (pc := 827) C dL_law_827 rfl rfl ?_
  refine r_iload (pc := 828) C dL_law_828 rfl ?_
  refine r_iconst (pc := 830) C dL_law_830 ki_1 ?_
  refine r_iadd (pc := 831) C dL_law_831 ?_
  refine r_sld (pc := 832) C hX hsb dL_law_832 (fun v104 => ?_)
  refine r_aload_n (pc := 833) C dL_law_833 rfl rfl ?_
  refine r_iload (pc := 834) C dL_law_834 rfl ?_
  refine r_iconst (pc := 836) C dL_law_836 ki_2 ?_
  refine r_iadd (pc := 837) C dL_law_837 ?_
  refine r_sld (pc := 838) C hX hsb dL_law_838 (fun v105 => ?_)
  refine r_cVI (pc := 839) C [.int v104, .int v105] [] (z_KX.up (z_KX.zero hT)) (s_X9_quote v2 v104 v105) mt_X9_quote zc_9 dL_law_839 ml_L_157 im_X9_quote se_X9_quote rfl rfl rfl (Nat.le_of_ble_eq_true rfl) ⟨Nat.le_of_ble_eq_true rfl, Nat.le_of_ble_eq_true rfl⟩ (fun r106 => ?_)
  refine r_sti (pc := 842) C [(0, .ref sb), (1, .ref (x_b X + v1)), (2, .ref (x_b X + v2)), (3, .ref (x_b X + v3)), (4, .int i), (5, .int r103), (6, .int r106)] dL_law_842 (by decide) rfl ?_
  refine r_aload_n (pc := 844) C dL_law_844 rfl rfl ?_
  refine r_cVI (pc := 845) C [] [] (z_KX.up (z_KX.zero hT)) (s_X9_thrown v2) mt_X9_thrown zc_9 dL_law_845 ml_L_116 im_X9_thrown se_X9_thrown rfl rfl rfl (Nat.le_of_ble_eq_true rfl) ⟨Nat.le_of_ble_eq_true rfl, Nat.le_of_ble_eq_true rfl⟩ (fun r107 => ?_)
  refine r_iload (pc := 848) C dL_law_848 rfl ?_
  refine r_icmp_eq (pc := 850) C (tgt := 855) dL_law_850 rfl (fun _ => ?_) (fun _ => ?_)
  · refine r_iload (pc := 855) C dL_law_855 rfl ?_
    refine r_if_ne (pc := 857) C (tgt := 872) dL_law_857 rfl (fun _ => ?_) (fun _ => ?_)
    · refine r_aload_n (pc := 860) C dL_law_860 rfl rfl ?_
      refine r_iconst (pc := 861) C dL_law_861 ki_0 ?_
      refine r_lald (pc := 862) C dL_law_862 (fun v108 => ?_)
      refine r_iload (pc := 863) C dL_law_863 rfl ?_
      refine r_i2l (pc := 865) C dL_law_865 ?_
      refine r_lcmp (pc := 866) C dL_law_866 ?_
      refine r_if_eq (pc := 867) C (tgt := 872) dL_law_867 rfl (fun _ => ?_) (fun _ => ?_)
      · refine r_goto (pc := 872) C (tgt := 2120) dL_law_872 rfl ?_
        refine r_inc (pc := 2120) C 6 [(0, .ref sb), (1, .ref (x_b X + v1)), (2, .ref (x_b X + v2)), (3, .ref (x_b X + v3)), (4, .int (i + 6))] dL_law_2120 rfl ki_6 (by decide) rfl ?_
        refine r_goto (pc := 2123) C (tgt := 23) dL_law_2123 rfl ?_
        refine r_sub [(0, .ref sb), (1, .ref (x_b X + v1)), (2, .ref (x_b X + v2)), (3, .ref (x_b X + v3)), (4, .int (i + 6))] rfl ?_
        exact r_br (τ := Int32) ((i + 6))
      · refine r_iconst (pc := 870) C dL_law_870 ki_0 ?_
        exact r_up (r_zret1 (pc := 871) C dL_law_871 (by decide))
    · refine r_goto (pc := 872) C (tgt := 2120) dL_law_872 rfl ?_
      refine r_inc (pc := 2120) C 6 [(0, .ref sb), (1, .ref (x_b X + v1)), (2, .ref (x_b X + v2)), (3, .ref (x_b X + v3)), (4, .int (i + 6))] dL_law_2120 rfl ki_6 (by decide) rfl ?_
      refine r_goto (pc := 2123) C (tgt := 23) dL_law_2123 rfl ?_
      refine r_sub [(0, .ref sb), (1, .ref (x_b X + v1)), (2, .ref (x_b X + v2)), (3, .ref (x_b X + v3)), (4, .int (i + 6))] rfl ?_
      exact r_br (τ := Int32) ((i + 6))
  · refine r_iconst (pc := 853) C dL_law_853 ki_0 ?_
    exact r_up (r_zret1 (pc := 854) C dL_law_854 (by decide))
noncomputable def p_L_c13 (xs : Nat → Int32) (L : Nat) (v1 v2 v3 : Nat) (i : Int32) : zP (Int32 ⊕ Int32) := (z_bd (z_xs xs L (i + 1)) (fun v101 => (z_bd (p_L_bonusAt v1 v101 v3) (fun r102 => (z_bd (z_xs xs L (i + 1)) (fun v103 => (z_bd (z_cv 9 v2 (p_X9_bonusAt v2 v103)) (fun r104 => (z_bd (z_cv 9 v2 (p_X9_thrown v2)) (fun r105 => (if r105 = r102 then (if r102 = 0 then (z_bd (z_aJ 15 v3 0) (fun v106 => (if (lg_cmp v106 ((r104 : Int32).toInt64)) = 0 then (z_pu (.inl ((i + 6)))) else (z_pu (.inr 0))))) else (z_pu (.inl ((i + 6))))) else (z_pu (.inr 0)))))))))))))
set_option maxHeartbeats 4000000 in
set_option maxRecDepth 100000 in
theorem s_L_c13 {X : zX} (C : z_Ok X x code 7 ret 2048 84000) (hT : z_Nt X) {sb L : Nat} {xs : Nat → Int32} (hX : va_X sb L xs (x_s X) (x_s X).heap) (hsb : sb < x_b X) (v1 v2 v3 : Nat) (i : Int32) : z_Sim X 7 (z_KT X 7 (z_K0 X z_ivI) 23 (fun (t0 : Int32) => [(0, .ref sb), (1, .ref (x_b X + v1)), (2, .ref (x_b X + v2)), (3, .ref (x_b X + v3)), (4, .int t0)]) (fun _ => [])) 875 [(0, .ref sb), (1, .ref (x_b X + v1)), (2, .ref (x_b X + v2)), (3, .ref (x_b X + v3)), (4, .int i)] [] (p_L_c13 xs L v1 v2 v3 i) := by
  unfold p_L_c13
  refine r_aload_n (pc := 875) C dL_law_875 rfl rfl ?_
  refine r_aload_n (pc := 876) C dL_law_876 rfl rfl ?_
  refine r_iload (pc := 877) C dL_law_877 rfl ?_
  refine r_iconst (pc := 879) C dL_law_879 ki_1 ?_
  refine r_iadd (pc := 880) C dL_law_880 ?_
  refine r_sld (pc := 881) C hX hsb dL_law_881 (fun v101 => ?_)
  refine r_aload_n (pc := 882) C dL_law_882 rfl rfl ?_
  refine r_cSH (pc := 883) C [.ref (x_b X + v1), .int v101, .ref (x_b X + v3)] [] (z_KX.up (z_KX.zero hT)) (s_L_bonusAt v1 v101 v3) mh_L_bonusAt dL_law_883 ml_L_158 sm_L_bonusAt rfl rfl rfl (Nat.le_of_ble_eq_true rfl) ⟨Nat.le_of_ble_eq_true rfl, Nat.le_of_ble_eq_true rfl⟩ (fun r102 => ?_)
  refine r_sti (pc := 886) C [(0, .ref sb), (1, .ref (x_b X + v1)), (2, .ref (x_b X + v2)), (3, .ref (x_b X + v3)), (4, .int i), (5, .int r102)] dL_law_886 (by decide) rfl ?_
  refine r_aload_n (pc := 888) C dL_law_888 rfl rfl ?_
  refine r_aload_n (pc := 889) C dL_law_889 rfl rfl ?_
  refine r_iload (pc := 890) C dL_law_890 rfl ?_
  refine r_iconst (pc := 892) C dL_law_892 ki_1 ?_
  refine r_iadd (pc := 893) C dL_law_893 ?_
  refine r_sld (pc := 894) C hX hsb dL_law_894 (fun v103 => ?_)
  refine r_cVI (pc := 895) C [.int v103] [] (z_KX.up (z_KX.zero hT)) (s_X9_bonusAt v2 v103) mt_X9_bonusAt zc_9 dL_law_895 ml_L_160 im_X9_bonusAt se_X9_bonusAt rfl rfl rfl (Nat.le_of_ble_eq_true rfl) ⟨Nat.le_of_ble_eq_true rfl, Nat.le_of_ble_eq_true rfl⟩ (fun r104 => ?_)
  refine r_sti (pc := 898) C [(0, .ref sb), (1, .ref (x_b X + v1)), (2, .ref (x_b X + v2)), (3, .ref (x_b X + v3)), (4, .int i), (5, .int r102), (6, .int r104)] dL_law_898 (by decide) rfl ?_
  refine r_aload_n (pc := 900) C dL_law_900 rfl rfl ?_
  refine r_cVI (pc := 901) C [] [] (z_KX.up (z_KX.zero hT)) (s_X9_thrown v2) mt_X9_thrown zc_9 dL_law_901 ml_L_116 im_X9_thrown se_X9_thrown rfl rfl rfl (Nat.le_of_ble_eq_true rfl) ⟨Nat.le_of_ble_eq_true rfl, Nat.le_of_ble_eq_true rfl⟩ (fun r105 => ?_)
  refine r_iload (pc := 904) C dL_law_904 rfl ?_
  refine r_icmp_eq (pc := 906) C (tgt := 911) dL_law_906 rfl (fun _ => ?_) (fun _ => ?_)
  · refine r_iload (pc := 911) C dL_law_911 rfl ?_
    refine r_if_ne (pc := 913) C (tgt := 928) dL_law_913 rfl (fun _ => ?_) (fun _ => ?_)
    · refine r_aload_n (pc := 916) C dL_law_916 rfl rfl ?_
      refine r_iconst (pc := 917) C dL_law_917 ki_0 ?_
      refine r_lald (pc := 918) C dL_law_918 (fun v106 => ?_)
      refine r_iload (pc := 919) C dL_law_919 rfl ?_
      refine r_i2l (pc := 921) C dL_law_921 ?_
      refine r_lcmp (pc := 922) C dL_law_922 ?_
      refine r_if_eq (pc := 923) C (tgt := 928) dL_law_923 rfl (fun _ => ?_) (fun _ => ?_)
      · refine r_goto (pc := 928) C (tgt := 2120) dL_law_928 rfl ?_
        refine r_inc (pc := 2120) C 6 [(0, .ref sb), (1, .ref (x_b X + v1)), (2, .ref (x_b X + v2)), (3, .ref (x_b X + v3)), (4, .int (i + 6))] dL_law_2120 rfl ki_6 (by decide) rfl ?_
        refine r_goto (pc := 2123) C (tgt := 23) dL_law_2123 rfl ?_
        refine r_sub [(0, .ref sb), (1, .ref (x_b X + v1)), (2, .ref (x_b X + v2)), (3, .ref (x_b X + v3)), (4, .int (i + 6))] rfl ?_
        exact r_br (τ := Int32) ((i + 6))
      · refine r_iconst (pc := 926) C dL_law_926 ki_0 ?_
        exact r_up (r_zret1 (pc := 927) C dL_law_927 (by decide))
    · refine r_goto (pc := 928) C (tgt := 2120) dL_law_928 rfl ?_
      refine r_inc (pc := 2120) C 6 [(0, .ref sb), (1, .ref (x_b X + v1)), (2, .ref (x_b X + v2)), (3, .ref (x_b X + v3)), (4, .int (i + 6))] dL_law_2120 rfl ki_6 (by decide) rfl ?_
      refine r_goto (pc := 2123) C (tgt := 23) dL_law_2123 rfl ?_
      refine r_sub [(0, .ref sb), (1, .ref (x_b X + v1)), (2, .ref (x_b X + v2)), (3, .ref (x_b X + v3)), (4, .int (i + 6))] rfl ?_
      exact r_br (τ := Int32) ((i + 6))
  · refine r_iconst (pc := 909) C dL_law_909 ki_0 ?_
    exact r_up (r_zret1 (pc := 910) C dL_law_910 (by decide))
noncomputable def p_L_c14 (xs : Nat → Int32) (L : Nat) (v1 v2 v3 : Nat) (i : Int32) : zP (Int32 ⊕ Int32) := (z_bd (z_xs xs L (i + 1)) (fun v101 => (z_bd (p_L_bestDeal v1 v101 v3) (fun r102 => (z_bd (z_xs xs L (i + 1)) (fun v103 => (z_bd (z_cv 9 v2 (p_X9_bestDeal v2 v103)) (fun r104 => (z_bd (z_cv 9 v2 (p_X9_thrown v2)) (fun r105 => (if r105 = r102 then (if r102 = 0 then (z_bd (z_aJ 15 v3 0) (fun v106 => (if (lg_cmp v106 ((r104 : Int32).toInt64)) = 0 then (z_pu (.inl ((i + 6)))) else (z_pu (.inr 0))))) else (z_pu (.inl ((i + 6))))) else (z_pu (.inr 0)))))))))))))
set_option maxHeartbeats 4000000 in
set_option maxRecDepth 100000 in
theorem s_L_c14 {X : zX} (C : z_Ok X x code 7 ret 2048 84000) (hT : z_Nt X) {sb L : Nat} {xs : Nat → Int32} (hX : va_X sb L xs (x_s X) (x_s X).heap) (hsb : sb < x_b X) (v1 v2 v3 : Nat) (i : Int32) : z_Sim X 7 (z_KT X 7 (z_K0 X z_ivI) 23 (fun (t0 : Int32) => [(0, .ref sb), (1, .ref (x_b X + v1)), (2, .ref (x_b X + v2)), (3, .ref (x_b X + v3)), (4, .int t0)]) (fun _ => [])) 931 [(0, .ref sb), (1, .ref (x_b X + v1)), (2, .ref (x_b X + v2)), (3, .ref (x_b X + v3)), (4, .int i)] [] (p_L_c14 xs L v1 v2 v3 i) := by
  unfold p_L_c14
  refine r_aload_n (pc := 931) C dL_law_931 rfl rfl ?_
  refine r_aload_n (pc := 932) C dL_law_932 rfl rfl ?_
  refine r_iload (pc := 933) C dL_law_933 rfl ?_
  refine r_iconst (pc := 935) C dL_law_935 ki_1 ?_
  refine r_iadd (pc := 936) C dL_law_936 ?_
  refine r_sld (pc := 937) C hX hsb dL_law_937 (fun v101 => ?_)
  refine r_aload_n (pc := 938) C dL_law_938 rfl rfl ?_
  refine r_cSH (pc := 939) C [.ref (x_b X + v1), .int v101, .ref (x_b X + v3)] [] (z_KX.up (z_KX.zero hT)) (s_L_bestDeal v1 v101 v3) mh_L_bestDeal dL_law_939 ml_L_161 sm_L_bestDeal rfl rfl rfl (Nat.le_of_ble_eq_true rfl) ⟨Nat.le_of_ble_eq_true rfl, Nat.le_of_ble_eq_true rfl⟩ (fun r102 => ?_)
  refine r_sti (pc := 942) C [(0, .ref sb), (1, .ref (x_b X + v1)), (2, .ref (x_b X + v2)), (3, .ref (x_b X + v3)), (4, .int i), (5, .int r102)] dL_law_942 (by decide) rfl ?_
  refine r_aload_n (pc := 944) C dL_law_944 rfl rfl ?_
  refine r_aload_n (pc := 945) C dL_law_945 rfl rfl ?_
  refine r_iload (pc := 946) C dL_law_946 rfl ?_
  refine r_iconst (pc := 948) C dL_law_948 ki_1 ?_
  refine r_iadd (pc := 949) C dL_law_949 ?_
  refine r_sld (pc := 950) C hX hsb dL_law_950 (fun v103 => ?_)
  refine r_cVI (pc := 951) C [.int v103] [] (z_KX.up (z_KX.zero hT)) (s_X9_bestDeal v2 v103) mt_X9_bestDeal zc_9 dL_law_951 ml_L_163 im_X9_bestDeal se_X9_bestDeal rfl rfl rfl (Nat.le_of_ble_eq_true rfl) ⟨Nat.le_of_ble_eq_true rfl, Nat.le_of_ble_eq_true rfl⟩ (fun r104 => ?_)
  refine r_sti (pc := 954) C [(0, .ref sb), (1, .ref (x_b X + v1)), (2, .ref (x_b X + v2)), (3, .ref (x_b X + v3)), (4, .int i), (5, .int r102), (6, .int r104)] dL_law_954 (by decide) rfl ?_
  refine r_aload_n (pc := 956) C dL_law_956 rfl rfl ?_
  refine r_cVI (pc := 957) C [] [] (z_KX.up (z_KX.zero hT)) (s_X9_thrown v2) mt_X9_thrown zc_9 dL_law_957 ml_L_116 im_X9_thrown se_X9_thrown rfl rfl rfl (Nat.le_of_ble_eq_true rfl) ⟨Nat.le_of_ble_eq_true rfl, Nat.le_of_ble_eq_true rfl⟩ (fun r105 => ?_)
  refine r_iload (pc := 960) C dL_law_960 rfl ?_
  refine r_icmp_eq (pc := 962) C (tgt := 967) dL_law_962 rfl (fun _ => ?_) (fun _ => ?_)
  · refine r_iload (pc := 967) C dL_law_967 rfl ?_
    refine r_if_ne (pc := 969) C (tgt := 984) dL_law_969 rfl (fun _ => ?_) (fun _ => ?_)
    · refine r_aload_n (pc := 972) C dL_law_972 rfl rfl ?_
      refine r_iconst (pc := 973) C dL_law_973 ki_0 ?_
      refine r_lald (pc := 974) C dL_law_974 (fun v106 => ?_)
      refine r_iload (pc := 975) C dL_law_975 rfl ?_
      refine r_i2l (pc := 977) C dL_law_977 ?_
      refine r_lcmp (pc := 978) C dL_law_978 ?_
      refine r_if_eq (pc := 979) C (tgt := 984) dL_law_979 rfl (fun _ => ?_) (fun _ => ?_)
      · refine r_goto (pc := 984) C (tgt := 2120) dL_law_984 rfl ?_
        refine r_inc (pc := 2120) C 6 [(0, .ref sb), (1, .ref (x_b X + v1)), (2, .ref (x_b X + v2)), (3, .ref (x_b X + v3)), (4, .int (i + 6))] dL_law_2120 rfl ki_6 (by decide) rfl ?_
        refine r_goto (pc := 2123) C (tgt := 23) dL_law_2123 rfl ?_
        refine r_sub [(0, .ref sb), (1, .ref (x_b X + v1)), (2, .ref (x_b X + v2)), (3, .ref (x_b X + v3)), (4, .int (i + 6))] rfl ?_
        exact r_br (τ := Int32) ((i + 6))
      · refine r_iconst (pc := 982) C dL_law_982 ki_0 ?_
        exact r_up (r_zret1 (pc := 983) C dL_law_983 (by decide))
    · refine r_goto (pc := 984) C (tgt := 2120) dL_law_984 rfl ?_
      refine r_inc (pc := 2120) C 6 [(0, .ref sb), (1, .ref (x_b X + v1)), (2, .ref (x_b X + v2)), (3, .ref (x_b X + v3)), (4, .int (i + 6))] dL_law_2120 rfl ki_6 (by decide) rfl ?_
      refine r_goto (pc := 2123) C (tgt := 23) dL_law_2123 rfl ?_
      refine r_sub [(0, .ref sb), (1, .ref (x_b X + v1)), (2, .ref (x_b X + v2)), (3, .ref (x_b X + v3)), (4, .int (i + 6))] rfl ?_
      exact r_br (τ := Int32) ((i + 6))
  · refine r_iconst (pc := 965) C dL_law_965 ki_0 ?_
    exact r_up (r_zret1 (pc := 966) C dL_law_966 (by decide))
noncomputable def p_L_c15 (xs : Nat → Int32) (L : Nat) (v1 v2 v3 : Nat) (i : Int32) : zP (Int32 ⊕ Int32) := (z_bd (z_cv 8 v1 (p_X8_riders v1)) (fun r101 => (z_bd (z_cv 9 v2 (p_X9_riders v2)) (fun r102 => (if r101 = r102 then (z_pu (.inl ((i + 6)))) else (z_pu (.inr 0)))))))
set_option maxHeartbeats 4000000 in
set_option maxRecDepth 100000 in
theorem s_L_c15 {X : zX} (C : z_Ok X x code 7 ret 2048 84000) (hT : z_Nt X) {sb L : Nat} {xs : Nat → Int32} (hX : va_X sb L xs (x_s X) (x_s X).heap) (hsb : sb < x_b X) (v1 v2 v3 : Nat) (i : Int32) : z_Sim X 7 (z_KT X 7 (z_K0 X z_ivI) 23 (fun (t0 : Int32) => [(0, .ref sb), (1, .ref (x_b X + v1)), (2, .ref (x_b X + v2)), (3, .ref (x_b X + v3)), (4, .int t0)]) (fun _ => [])) 987 [(0, .ref sb), (1, .ref (x_b X + v1)), (2, .ref (x_b X + v2)), (3, .ref (x_b X + v3)), (4, .int i)] [] (p_L_c15 xs L v1 v2 v3 i) := by
  unfold p_L_c15
  refine r_aload_n (pc := 987) C dL_law_987 rfl rfl ?_
  refine r_cVI (pc := 988) C [] [] (z_KX.up (z_KX.zero hT)) (s_X8_riders v1) mt_X8_riders zc_8 dL_law_988 ml_L_164 im_X8_riders se_X8_riders rfl rfl rfl (Nat.le_of_ble_eq_true rfl) ⟨Nat.le_of_ble_eq_true rfl, Nat.le_of_ble_eq_true rfl⟩ (fun r101 => ?_)
  refine r_aload_n (pc := 991) C dL_law_991 rfl rfl ?_
  refine r_cVI (pc := 992) C [] [.int r101] (z_KX.up (z_KX.zero hT)) (s_X9_riders v2) mt_X9_riders zc_9 dL_law_992 ml_L_167 im_X9_riders se_X9_riders rfl rfl rfl (Nat.le_of_ble_eq_true rfl) ⟨Nat.le_of_ble_eq_true rfl, Nat.le_of_ble_eq_true rfl⟩ (fun r102 => ?_)
  refine r_icmp_eq (pc := 995) C (tgt := 2120) dL_law_995 rfl (fun _ => ?_) (fun _ => ?_)
  · refine r_inc (pc := 2120) C 6 [(0, .ref sb), (1, .ref (x_b X + v1)), (2, .ref (x_b X + v2)), (3, .ref (x_b X + v3)), (4, .int (i + 6))] dL_law_2120 rfl ki_6 (by decide) rfl ?_
    refine r_goto (pc := 2123) C (tgt := 23) dL_law_2123 rfl ?_
    refine r_sub [(0, .ref sb), (1, .ref (x_b X + v1)), (2, .ref (x_b X + v2)), (3, .ref (x_b X + v3)), (4, .int (i + 6))] rfl ?_
    exact r_br (τ := Int32) ((i + 6))
  · refine r_iconst (pc := 998) C dL_law_998 ki_0 ?_
    exact r_up (r_zret1 (pc := 999) C dL_law_999 (by decide))
noncomputable def p_L_c16 (xs : Nat → Int32) (L : Nat) (v1 v2 v3 : Nat) (i : Int32) : zP (Int32 ⊕ Int32) := (z_bd (z_xs xs L (i + 1)) (fun v101 => (z_bd (z_xs xs L (i + 2)) (fun v102 => (z_bd (p_L_rider v1 v101 v102 v3) (fun r103 => (z_bd (z_xs xs L (i + 1)) (fun v104 => (z_bd (z_xs xs L (i + 2)) (fun v105 => (z_bd (z_cv 9 v2 (p_X9_rider v2 v104 v105)) (fun r106 => (z_bd (z_cv 9 v2 (p_X9_thrown v2)) (fun r107 => (if r107 = r103 then (if r103 = 0 then (z_bd (z_aJ 15 v3 0) (fun v108 => (if (lg_cmp v108 ((r106 : Int32).toInt64)) = 0 then (z_pu (.inl ((i + 6)))) else (z_pu (.inr 0))))) else (z_pu (.inl ((i + 6))))) else (z_pu (.inr 0)))))))))))))))))
set_option maxHeartbeats 4000000 in
set_option maxRecDepth 100000 in
theorem s_L_c16 {X : zX} (C : z_Ok X x code 7 ret 2048 84000) (hT : z_Nt X) {sb L : Nat} {xs : Nat → Int32} (hX : va_X sb L xs (x_s X) (x_s X).heap) (hsb : sb < x_b X) (v1 v2 v3 : Nat) (i : Int32) : z_Sim X 7 (z_KT X 7 (z_K0 X z_ivI) 23 (fun (t0 : Int32) => [(0, .ref sb), (1, .ref (x_b X + v1)), (2, .ref (x_b X + v2)), (3, .ref (x_b X + v3)), (4, .int t0)]) (fun _ => [])) 1000 [(0, .ref sb), (1, .ref (x_b X + v1)), (2, .ref (x_b X + v2)), (3, .ref (x_b X + v3)), (4, .int i)] [] (p_L_c16 xs L v1 v2 v3 i) := by
  unfold p_L_c16
  refine r_aload_n (pc := 1000) C dL_law_1000 rfl rfl ?_
  refine r_aload_n (pc := 1001) C dL_law_1001 rfl rfl ?_
  refine r_iload (pc := 1002) C dL_law_1002 rfl ?_
  refine r_iconst (pc := 1004) C dL_law_1004 ki_1 ?_
  refine r_iadd (pc := 1005) C dL_law_1005 ?_
  refine r_sld (pc := 1006) C hX hsb dL_law_1006 (fun v101 => ?_)
  refine r_aload_n (pc := 1007) C dL_law_1007 rfl rfl ?_
  refine r_iload (pc := 1008) C dL_law_1008 rfl ?_
  refine r_iconst (pc := 1010) C dL_law_1010 ki_2 ?_
  refine r_iadd (pc := 1011) C dL_law_1011 ?_
  refine r_sld (pc := 1012) C hX hsb dL_law_1012 (fun v102 => ?_)
  refine r_aload_n (pc := 1013) C dL_law_1013 rfl rfl ?_
  refine r_cSH (pc := 1014) C [.ref (x_b X + v1), .int v101, .int v102, .ref (x_b X + v3)] [] (z_KX.up (z_KX.zero hT)) (s_L_rider v1 v101 v102 v3) mh_L_rider dL_law_1014 ml_L_168 sm_L_rider rfl rfl rfl (Nat.le_of_ble_eq_true rfl) ⟨Nat.le_of_ble_eq_true rfl, Nat.le_of_ble_eq_true rfl⟩ (fun r103 => ?_)
  refine r_sti (pc := 1017) C [(0, .ref sb), (1, .ref (x_b X + v1)), (2, .ref (x_b X + v2)), (3, .ref (x_b X + v3)), (4, .int i), (5, .int r103)] dL_law_1017 (by decide) rfl ?_
  refine r_aload_n (pc := 1019) C dL_law_1019 rfl rfl ?_
  refine r_aload_n (pc := 1020) C dL_law_1020 rfl rfl ?_
  refine r_iload (pc := 1021) C dL_law_1021 rfl ?_
  refine r_iconst (pc := 1023) C dL_law_1023 ki_1 ?_
  refine r_iadd (pc := 1024) C dL_law_1024 ?_
  refine r_sld (pc := 1025) C hX hsb dL_law_1025 (fun v104 => ?_)
  refine r_aload_n (pc := 1026) C dL_law_1026 rfl rfl ?_
  refine r_iload (pc := 1027) C dL_law_1027 rfl ?_
  refine r_iconst (pc := 1029) C dL_law_1029 ki_2 ?_
  refine r_iadd (pc := 1030) C dL_law_1030 ?_
  refine r_sld (pc := 1031) C hX hsb dL_law_1031 (fun v105 => ?_)
  refine r_cVI (pc := 1032) C [.int v104, .int v105] [] (z_KX.up (z_KX.zero hT)) (s_X9_rider v2 v104 v105) mt_X9_rider zc_9 dL_law_1032 ml_L_170 im_X9_rider se_X9_rider rfl rfl rfl (Nat.le_of_ble_eq_true rfl) ⟨Nat.le_of_ble_eq_true rfl, Nat.le_of_ble_eq_true rfl⟩ (fun r106 => ?_)
  refine r_sti (pc := 1035) C [(0, .ref sb), (1, .ref (x_b X + v1)), (2, .ref (x_b X + v2)), (3, .ref (x_b X + v3)), (4, .int i), (5, .int r103), (6, .int r106)] dL_law_1035 (by decide) rfl ?_
  refine r_aload_n (pc := 1037) C dL_law_1037 rfl rfl ?_
  refine r_cVI (pc := 1038) C [] [] (z_KX.up (z_KX.zero hT)) (s_X9_thrown v2) mt_X9_thrown zc_9 dL_law_1038 ml_L_116 im_X9_thrown se_X9_thrown rfl rfl rfl (Nat.le_of_ble_eq_true rfl) ⟨Nat.le_of_ble_eq_true rfl, Nat.le_of_ble_eq_true rfl⟩ (fun r107 => ?_)
  refine r_iload (pc := 1041) C dL_law_1041 rfl ?_
  refine r_icmp_eq (pc := 1043) C (tgt := 1048) dL_law_1043 rfl (fun _ => ?_) (fun _ => ?_)
  · refine r_iload (pc := 1048) C dL_law_1048 rfl ?_
    refine r_if_ne (pc := 1050) C (tgt := 1065) dL_law_1050 rfl (fun _ => ?_) (fun _ => ?_)
    · refine r_aload_n (pc := 1053) C dL_law_1053 rfl rfl ?_
      refine r_iconst (pc := 1054) C dL_law_1054 ki_0 ?_
      refine r_lald (pc := 1055) C dL_law_1055 (fun v108 => ?_)
      refine r_iload (pc := 1056) C dL_law_1056 rfl ?_
      refine r_i2l (pc := 1058) C dL_law_1058 ?_
      refine r_lcmp (pc := 1059) C dL_law_1059 ?_
      refine r_if_eq (pc := 1060) C (tgt := 1065) dL_law_1060 rfl (fun _ => ?_) (fun _ => ?_)
      · refine r_goto (pc := 1065) C (tgt := 2120) dL_law_1065 rfl ?_
        refine r_inc (pc := 2120) C 6 [(0, .ref sb), (1, .ref (x_b X + v1)), (2, .ref (x_b X + v2)), (3, .ref (x_b X + v3)), (4, .int (i + 6))] dL_law_2120 rfl ki_6 (by decide) rfl ?_
        refine r_goto (pc := 2123) C (tgt := 23) dL_law_2123 rfl ?_
        refine r_sub [(0, .ref sb), (1, .ref (x_b X + v1)), (2, .ref (x_b X + v2)), (3, .ref (x_b X + v3)), (4, .int (i + 6))] rfl ?_
        exact r_br (τ := Int32) ((i + 6))
      · refine r_iconst (pc := 1063) C dL_law_1063 ki_0 ?_
        exact r_up (r_zret1 (pc := 1064) C dL_law_1064 (by decide))
    · refine r_goto (pc := 1065) C (tgt := 2120) dL_law_1065 rfl ?_
      refine r_inc (pc := 2120) C 6 [(0, .ref sb), (1, .ref (x_b X + v1)), (2, .ref (x_b X + v2)), (3, .ref (x_b X + v3)), (4, .int (i + 6))] dL_law_2120 rfl ki_6 (by decide) rfl ?_
      refine r_goto (pc := 2123) C (tgt := 23) dL_law_2123 rfl ?_
      refine r_sub [(0, .ref sb), (1, .ref (x_b X + v1)), (2, .ref (x_b X + v2)), (3, .ref (x_b X + v3)), (4, .int (i + 6))] rfl ?_
      exact r_br (τ := Int32) ((i + 6))
  · refine r_iconst (pc := 1046) C dL_law_1046 ki_0 ?_
    exact r_up (r_zret1 (pc := 1047) C dL_law_1047 (by decide))
noncomputable def p_L_c17 (xs : Nat → Int32) (L : Nat) (v1 v2 v3 : Nat) (i : Int32) : zP (Int32 ⊕ Int32) := (z_bd (z_xs xs L (i + 1)) (fun v101 => (z_bd (z_xs xs L (i + 2)) (fun v102 => (z_bd (p_L_ridesBetween v1 v101 v102 v3) (fun r103 => (z_bd (z_xs xs L (i + 1)) (fun v104 => (z_bd (z_xs xs L (i + 2)) (fun v105 => (z_bd (z_cv 9 v2 (p_X9_ridesBetween v2 v104 v105)) (fun r106 => (z_bd (z_cv 9 v2 (p_X9_thrown v2)) (fun r107 => (if r107 = r103 then (if r103 = 0 then (z_bd (z_aJ 15 v3 0) (fun v108 => (if (lg_cmp v108 ((r106 : Int32).toInt64)) = 0 then (z_pu (.inl ((i + 6)))) else (z_pu (.inr 0))))) else (z_pu (.inl ((i + 6))))) else (z_pu (.inr 0)))))))))))))))))
set_option maxHeartbeats 4000000 in
set_option maxRecDepth 100000 in
theorem s_L_c17 {X : zX} (C : z_Ok X x code 7 ret 2048 84000) (hT : z_Nt X) {sb L : Nat} {xs : Nat → Int32} (hX : va_X sb L xs (x_s X) (x_s X).heap) (hsb : sb < x_b X) (v1 v2 v3 : Nat) (i : Int32) : z_Sim X 7 (z_KT X 7 (z_K0 X z_ivI) 23 (fun (t0 : Int32) => [(0, .ref sb), (1, .ref (x_b X + v1)), (2, .ref (x_b X + v2)), (3, .ref (x_b X + v3)), (4, .int t0)]) (fun _ => [])) 1068 [(0, .ref sb), (1, .ref (x_b X + v1)), (2, .ref (x_b X + v2)), (3, .ref (x_b X + v3)), (4, .int i)] [] (p_L_c17 xs L v1 v2 v3 i) := by
  unfold p_L_c17
  refine r_aload_n (pc := 1068) C dL_law_1068 rfl rfl ?_
  refine r_aload_n (pc := 1069) C dL_law_1069 rfl rfl ?_
  refine r_iload (pc := 1070) C dL_law_1070 rfl ?_
  refine r_iconst (pc := 1072) C dL_law_1072 ki_1 ?_
  refine r_iadd (pc := 1073) C dL_law_1073 ?_
  refine r_sld (pc := 1074) C hX hsb dL_law_1074 (fun v101 => ?_)
  refine r_aload_n (pc := 1075) C dL_law_1075 rfl rfl ?_
  refine r_iload (pc := 1076) C dL_law_1076 rfl ?_
  refine r_iconst (pc := 1078) C dL_law_1078 ki_2 ?_
  refine r_iadd (pc := 1079) C dL_law_1079 ?_
  refine r_sld (pc := 1080) C hX hsb dL_law_1080 (fun v102 => ?_)
  refine r_aload_n (pc := 1081) C dL_law_1081 rfl rfl ?_
  refine r_cSH (pc := 1082) C [.ref (x_b X + v1), .int v101, .int v102, .ref (x_b X + v3)] [] (z_KX.up (z_KX.zero hT)) (s_L_ridesBetween v1 v101 v102 v3) mh_L_ridesBetween dL_law_1082 ml_L_171 sm_L_ridesBetween rfl rfl rfl (Nat.le_of_ble_eq_true rfl) ⟨Nat.le_of_ble_eq_true rfl, Nat.le_of_ble_eq_true rfl⟩ (fun r103 => ?_)
  refine r_sti (pc := 1085) C [(0, .ref sb), (1, .ref (x_b X + v1)), (2, .ref (x_b X + v2)), (3, .ref (x_b X + v3)), (4, .int i), (5, .int r103)] dL_law_1085 (by decide) rfl ?_
  refine r_aload_n (pc := 1087) C dL_law_1087 rfl rfl ?_
  refine r_aload_n (pc := 1088) C dL_law_1088 rfl rfl ?_
  refine r_iload (pc := 1089) C dL_law_1089 rfl ?_
  refine r_iconst (pc := 1091) C dL_law_1091 ki_1 ?_
  refine r_iadd (pc := 1092) C dL_law_1092 ?_
  refine r_sld (pc := 1093) C hX hsb dL_law_1093 (fun v104 => ?_)
  refine r_aload_n (pc := 1094) C dL_law_1094 rfl rfl ?_
  refine r_iload (pc := 1095) C dL_law_1095 rfl ?_
  refine r_iconst (pc := 1097) C dL_law_1097 ki_2 ?_
  refine r_iadd (pc := 1098) C dL_law_1098 ?_
  refine r_sld (pc := 1099) C hX hsb dL_law_1099 (fun v105 => ?_)
  refine r_cVI (pc := 1100) C [.int v104, .int v105] [] (z_KX.up (z_KX.zero hT)) (s_X9_ridesBetween v2 v104 v105) mt_X9_ridesBetween zc_9 dL_law_1100 ml_L_173 im_X9_ridesBetween se_X9_ridesBetween rfl rfl rfl (Nat.le_of_ble_eq_true rfl) ⟨Nat.le_of_ble_eq_true rfl, Nat.le_of_ble_eq_true rfl⟩ (fun r106 => ?_)
  refine r_sti (pc := 1103) C [(0, .ref sb), (1, .ref (x_b X + v1)), (2, .ref (x_b X + v2)), (3, .ref (x_b X + v3)), (4, .int i), (5, .int r103), (6, .int r106)] dL_law_1103 (by decide) rfl ?_
  refine r_aload_n (pc := 1105) C dL_law_1105 rfl rfl ?_
  refine r_cVI (pc := 1106) C [] [] (z_KX.up (z_KX.zero hT)) (s_X9_thrown v2) mt_X9_thrown zc_9 dL_law_1106 ml_L_116 im_X9_thrown se_X9_thrown rfl rfl rfl (Nat.le_of_ble_eq_true rfl) ⟨Nat.le_of_ble_eq_true rfl, Nat.le_of_ble_eq_true rfl⟩ (fun r107 => ?_)
  refine r_iload (pc := 1109) C dL_law_1109 rfl ?_
  refine r_icmp_eq (pc := 1111) C (tgt := 1116) dL_law_1111 rfl (fun _ => ?_) (fun _ => ?_)
  · refine r_iload (pc := 1116) C dL_law_1116 rfl ?_
    refine r_if_ne (pc := 1118) C (tgt := 1133) dL_law_1118 rfl (fun _ => ?_) (fun _ => ?_)
    · refine r_aload_n (pc := 1121) C dL_law_1121 rfl rfl ?_
      refine r_iconst (pc := 1122) C dL_law_1122 ki_0 ?_
      refine r_lald (pc := 1123) C dL_law_1123 (fun v108 => ?_)
      refine r_iload (pc := 1124) C dL_law_1124 rfl ?_
      refine r_i2l (pc := 1126) C dL_law_1126 ?_
      refine r_lcmp (pc := 1127) C dL_law_1127 ?_
      refine r_if_eq (pc := 1128) C (tgt := 1133) dL_law_1128 rfl (fun _ => ?_) (fun _ => ?_)
      · refine r_goto (pc := 1133) C (tgt := 2120) dL_law_1133 rfl ?_
        refine r_inc (pc := 2120) C 6 [(0, .ref sb), (1, .ref (x_b X + v1)), (2, .ref (x_b X + v2)), (3, .ref (x_b X + v3)), (4, .int (i + 6))] dL_law_2120 rfl ki_6 (by decide) rfl ?_
        refine r_goto (pc := 2123) C (tgt := 23) dL_law_2123 rfl ?_
        refine r_sub [(0, .ref sb), (1, .ref (x_b X + v1)), (2, .ref (x_b X + v2)), (3, .ref (x_b X + v3)), (4, .int (i + 6))] rfl ?_
        exact r_br (τ := Int32) ((i + 6))
      · refine r_iconst (pc := 1131) C dL_law_1131 ki_0 ?_
        exact r_up (r_zret1 (pc := 1132) C dL_law_1132 (by decide))
    · refine r_goto (pc := 1133) C (tgt := 2120) dL_law_1133 rfl ?_
      refine r_inc (pc := 2120) C 6 [(0, .ref sb), (1, .ref (x_b X + v1)), (2, .ref (x_b X + v2)), (3, .ref (x_b X + v3)), (4, .int (i + 6))] dL_law_2120 rfl ki_6 (by decide) rfl ?_
      refine r_goto (pc := 2123) C (tgt := 23) dL_law_2123 rfl ?_
      refine r_sub [(0, .ref sb), (1, .ref (x_b X + v1)), (2, .ref (x_b X + v2)), (3, .ref (x_b X + v3)), (4, .int (i + 6))] rfl ?_
      exact r_br (τ := Int32) ((i + 6))
  · refine r_iconst (pc := 1114) C dL_law_1114 ki_0 ?_
    exact r_up (r_zret1 (pc := 1115) C dL_law_1115 (by decide))
noncomputable def p_L_c18 (xs : Nat → Int32) (L : Nat) (v1 v2 v3 : Nat) (i : Int32) : zP (Int32 ⊕ Int32) := (z_bd (z_cv 8 v1 (p_X8_busiestPair v1)) (fun r101 => (z_bd (z_cv 9 v2 (p_X9_busiestPair v2)) (fun r102 => (if r101 = r102 then (z_pu (.inl ((i + 6)))) else (z_pu (.inr 0)))))))
set_option maxHeartbeats 4000000 in
set_option maxRecDepth 100000 in
theorem s_L_c18 {X : zX} (C : z_Ok X x code 7 ret 2048 84000) (hT : z_Nt X) {sb L : Nat} {xs : Nat → Int32} (hX : va_X sb L xs (x_s X) (x_s X).heap) (hsb : sb < x_b X) (v1 v2 v3 : Nat) (i : Int32) : z_Sim X 7 (z_KT X 7 (z_K0 X z_ivI) 23 (fun (t0 : Int32) => [(0, .ref sb), (1, .ref (x_b X + v1)), (2, .ref (x_b X + v2)), (3, .ref (x_b X + v3)), (4, .int t0)]) (fun _ => [])) 1136 [(0, .ref sb), (1, .ref (x_b X + v1)), (2, .ref (x_b X + v2)), (3, .ref (x_b X + v3)), (4, .int i)] [] (p_L_c18 xs L v1 v2 v3 i) := by
  unfold p_L_c18
  refine r_aload_n (pc := 1136) C dL_law_1136 rfl rfl ?_
  refine r_cVI (pc := 1137) C [] [] (z_KX.up (z_KX.zero hT)) (s_X8_busiestPair v1) mt_X8_busiestPair zc_8 dL_law_1137 ml_L_174 im_X8_busiestPair se_X8_busiestPair rfl rfl rfl (Nat.le_of_ble_eq_true rfl) ⟨Nat.le_of_ble_eq_true rfl, Nat.le_of_ble_eq_true rfl⟩ (fun r101 => ?_)
  refine r_aload_n (pc := 1140) C dL_law_1140 rfl rfl ?_
  refine r_cVI (pc := 1141) C [] [.int r101] (z_KX.up (z_KX.zero hT)) (s_X9_busiestPair v2) mt_X9_busiestPair zc_9 dL_law_1141 ml_L_177 im_X9_busiestPair se_X9_busiestPair rfl rfl rfl (Nat.le_of_ble_eq_true rfl) ⟨Nat.le_of_ble_eq_true rfl, Nat.le_of_ble_eq_true rfl⟩ (fun r102 => ?_)
  refine r_icmp_eq (pc := 1144) C (tgt := 2120) dL_law_1144 rfl (fun _ => ?_) (fun _ => ?_)
  · refine r_inc (pc := 2120) C 6 [(0, .ref sb), (1, .ref (x_b X + v1)), (2, .ref (x_b X + v2)), (3, .ref (x_b X + v3)), (4, .int (i + 6))] dL_law_2120 rfl ki_6 (by decide) rfl ?_
    refine r_goto (pc := 2123) C (tgt := 23) dL_law_2123 rfl ?_
    refine r_sub [(0, .ref sb), (1, .ref (x_b X + v1)), (2, .ref (x_b X + v2)), (3, .ref (x_b X + v3)), (4, .int (i + 6))] rfl ?_
    exact r_br (τ := Int32) ((i + 6))
  · refine r_iconst (pc := 1147) C dL_law_1147 ki_0 ?_
    exact r_up (r_zret1 (pc := 1148) C dL_law_1148 (by decide))
