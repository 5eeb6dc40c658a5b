noncomputable def p_L_parse (p1 : Nat) (p2 : Int32) (p3 : Nat) : zP Int32 := (z_ct (z_cv 8 p1 (p_X8_parse p1 p2)) (fun E => if E = "java/lang/IllegalArgumentException" then z_pu 1 else z_fl) (fun r1 => (z_bd (z_sJ 15 p3 0 ((r1 : Int32).toInt64)) (fun _ => (z_pu 0)))))
theorem mh_L_parse : z_MtH yL_parse cL_parse 4 (some .int) [(0, 9, 12, 13)] 3 := ⟨XT_t 534 (by decide +kernel) rfl, ini_L, by decide, by decide, by decide +kernel⟩
set_option maxHeartbeats 4000000 in
set_option maxRecDepth 100000 in
theorem s_L_parse (p1 : Nat) (p2 : Int32) (p3 : Nat) : z_SoundH yL_parse cL_parse 4 (some .int) [(0, 9, 12, 13)] 14 333 (fun D b => [.ref (b + p1), .int p2, .ref (b + p3)]) z_ivI (p_L_parse p1 p2 p3) := by
  refine z_ofSimH rfl (by intro D b; exact Nat.le_of_ble_eq_true rfl) (fun X C hTb => ?_)
  unfold p_L_parse
  refine r_sub [(0, .ref (x_b X + p1)), (1, .int p2), (2, .ref (x_b X + p3))] rfl ?_
  refine r_aload_n (pc := 0) C dL_parse_0 rfl rfl ?_
  refine r_iconst (pc := 1) C dL_parse_1 ki_0 ?_
  refine r_aload_n (pc := 2) C dL_parse_2 rfl rfl ?_
  refine r_iload_n (pc := 3) C dL_parse_3 rfl rfl ?_
  refine r_catch (pc := 4) C hTb [.int p2] [.int 0, .ref (x_b X + p3)] (s_X8_parse p1 p2) mt_X8_parse zc_8 dL_parse_4 ml_L_7 im_X8_parse se_X8_parse rfl rfl rfl (Nat.le_of_ble_eq_true rfl) ⟨Nat.le_of_ble_eq_true rfl, Nat.le_of_ble_eq_true rfl⟩ (fun E => ?_) (fun r1 => ?_)
  · by_cases h0 : E = "java/lang/IllegalArgumentException"
    · subst h0
      refine Or.inr ⟨[], ⟨0, 9, 12, 13⟩, [], rfl, (fun z hz => nomatch hz), by decide, by decide, cl_L_13, by decide, fun q => ?_⟩
      rw [if_pos rfl]
      refine r_sta_n (pc := 12) C 3 [] dL_parse_12 rfl (by decide) rfl ?_
      refine r_iconst (pc := 13) C dL_parse_13 ki_1 ?_
      exact r_iret (pc := 14) C dL_parse_14
    · rw [if_neg h0]; exact Or.inl rfl
  · refine r_i2l (pc := 7) C dL_parse_7 ?_
    refine r_last (pc := 8) C dL_parse_8 ?_
    refine r_goto (pc := 9) C (tgt := 15) dL_parse_9 rfl ?_
    refine r_iconst (pc := 15) C dL_parse_15 ki_0 ?_
    exact r_iret (pc := 16) C dL_parse_16
noncomputable def p_L_size (p1 : Nat) (p2 : Int32) (p3 : Nat) : zP Int32 := (z_ct (z_cv 8 p1 (p_X8_size p1 p2)) (fun E => if E = "java/lang/IllegalArgumentException" then z_pu 1 else z_fl) (fun r1 => (z_bd (z_sJ 15 p3 0 ((r1 : Int32).toInt64)) (fun _ => (z_pu 0)))))
theorem mh_L_size : z_MtH yL_size cL_size 4 (some .int) [(0, 9, 12, 13)] 3 := ⟨XT_t 791 (by decide +kernel) rfl, ini_L, by decide, by decide, by decide +kernel⟩
set_option maxHeartbeats 4000000 in
set_option maxRecDepth 100000 in
theorem s_L_size (p1 : Nat) (p2 : Int32) (p3 : Nat) : z_SoundH yL_size cL_size 4 (some .int) [(0, 9, 12, 13)] 7 103 (fun D b => [.ref (b + p1), .int p2, .ref (b + p3)]) z_ivI (p_L_size p1 p2 p3) := by
  refine z_ofSimH rfl (by intro D b; exact Nat.le_of_ble_eq_true rfl) (fun X C hTb => ?_)
  unfold p_L_size
  refine r_sub [(0, .ref (x_b X + p1)), (1, .int p2), (2, .ref (x_b X + p3))] rfl ?_
  refine r_aload_n (pc := 0) C dL_size_0 rfl rfl ?_
  refine r_iconst (pc := 1) C dL_size_1 ki_0 ?_
  refine r_aload_n (pc := 2) C dL_size_2 rfl rfl ?_
  refine r_iload_n (pc := 3) C dL_size_3 rfl rfl ?_
  refine r_catch (pc := 4) C hTb [.int p2] [.int 0, .ref (x_b X + p3)] (s_X8_size p1 p2) mt_X8_size zc_8 dL_size_4 ml_L_15 im_X8_size se_X8_size rfl rfl rfl (Nat.le_of_ble_eq_true rfl) ⟨Nat.le_of_ble_eq_true rfl, Nat.le_of_ble_eq_true rfl⟩ (fun E => ?_) (fun r1 => ?_)
  · by_cases h0 : E = "java/lang/IllegalArgumentException"
    · subst h0
      refine Or.inr ⟨[], ⟨0, 9, 12, 13⟩, [], rfl, (fun z hz => nomatch hz), by decide, by decide, cl_L_13, by decide, fun q => ?_⟩
      rw [if_pos rfl]
      refine r_sta_n (pc := 12) C 3 [] dL_size_12 rfl (by decide) rfl ?_
      refine r_iconst (pc := 13) C dL_size_13 ki_1 ?_
      exact r_iret (pc := 14) C dL_size_14
    · rw [if_neg h0]; exact Or.inl rfl
  · refine r_i2l (pc := 7) C dL_size_7 ?_
    refine r_last (pc := 8) C dL_size_8 ?_
    refine r_goto (pc := 9) C (tgt := 15) dL_size_9 rfl ?_
    refine r_iconst (pc := 15) C dL_size_15 ki_0 ?_
    exact r_iret (pc := 16) C dL_size_16
noncomputable def p_L_bikes (p1 : Nat) (p2 : Int32) (p3 : Nat) : zP Int32 := (z_ct (z_cv 8 p1 (p_X8_bikes p1 p2)) (fun E => if E = "java/lang/IndexOutOfBoundsException" then z_pu 1 else z_fl) (fun r1 => (z_bd (z_sJ 15 p3 0 ((r1 : Int32).toInt64)) (fun _ => (z_pu 0)))))
theorem mh_L_bikes : z_MtH yL_bikes cL_bikes 4 (some .int) [(0, 9, 12, 21)] 3 := ⟨XT_t 799 (by decide +kernel) rfl, ini_L, by decide, by decide, by decide +kernel⟩
set_option maxHeartbeats 4000000 in
set_option maxRecDepth 100000 in
theorem s_L_bikes (p1 : Nat) (p2 : Int32) (p3 : Nat) : z_SoundH yL_bikes cL_bikes 4 (some .int) [(0, 9, 12, 21)] 8 124 (fun D b => [.ref (b + p1), .int p2, .ref (b + p3)]) z_ivI (p_L_bikes p1 p2 p3) := by
  refine z_ofSimH rfl (by intro D b; exact Nat.le_of_ble_eq_true rfl) (fun X C hTb => ?_)
  unfold p_L_bikes
  refine r_sub [(0, .ref (x_b X + p1)), (1, .int p2), (2, .ref (x_b X + p3))] rfl ?_
  refine r_aload_n (pc := 0) C dL_bikes_0 rfl rfl ?_
  refine r_iconst (pc := 1) C dL_bikes_1 ki_0 ?_
  refine r_aload_n (pc := 2) C dL_bikes_2 rfl rfl ?_
  refine r_iload_n (pc := 3) C dL_bikes_3 rfl rfl ?_
  refine r_catch (pc := 4) C hTb [.int p2] [.int 0, .ref (x_b X + p3)] (s_X8_bikes p1 p2) mt_X8_bikes zc_8 dL_bikes_4 ml_L_18 im_X8_bikes se_X8_bikes rfl rfl rfl (Nat.le_of_ble_eq_true rfl) ⟨Nat.le_of_ble_eq_true rfl, Nat.le_of_ble_eq_true rfl⟩ (fun E => ?_) (fun r1 => ?_)
  · by_cases h0 : E = "java/lang/IndexOutOfBoundsException"
    · subst h0
      refine Or.inr ⟨[], ⟨0, 9, 12, 21⟩, [], rfl, (fun z hz => nomatch hz), by decide, by decide, cl_L_21, by decide, fun q => ?_⟩
      rw [if_pos rfl]
      refine r_sta_n (pc := 12) C 3 [] dL_bikes_12 rfl (by decide) rfl ?_
      refine r_iconst (pc := 13) C dL_bikes_13 ki_1 ?_
      exact r_iret (pc := 14) C dL_bikes_14
    · rw [if_neg h0]; exact Or.inl rfl
  · refine r_i2l (pc := 7) C dL_bikes_7 ?_
    refine r_last (pc := 8) C dL_bikes_8 ?_
    refine r_goto (pc := 9) C (tgt := 15) dL_bikes_9 rfl ?_
    refine r_iconst (pc := 15) C dL_bikes_15 ki_0 ?_
    exact r_iret (pc := 16) C dL_bikes_16
noncomputable def p_L_freeDocks (p1 : Nat) (p2 : Int32) (p3 : Nat) : zP Int32 := (z_ct (z_cv 8 p1 (p_X8_freeDocks p1 p2)) (fun E => if E = "java/lang/IndexOutOfBoundsException" then z_pu 1 else z_fl) (fun r1 => (z_bd (z_sJ 15 p3 0 ((r1 : Int32).toInt64)) (fun _ => (z_pu 0)))))
theorem mh_L_freeDocks : z_MtH yL_freeDocks cL_freeDocks 4 (some .int) [(0, 9, 12, 21)] 3 := ⟨XT_t 827 (by decide +kernel) rfl, ini_L, by decide, by decide, by decide +kernel⟩
set_option maxHeartbeats 4000000 in
set_option maxRecDepth 100000 in
theorem s_L_freeDocks (p1 : Nat) (p2 : Int32) (p3 : Nat) : z_SoundH yL_freeDocks cL_freeDocks 4 (some .int) [(0, 9, 12, 21)] 8 124 (fun D b => [.ref (b + p1), .int p2, .ref (b + p3)]) z_ivI (p_L_freeDocks p1 p2 p3) := by
  refine z_ofSimH rfl (by intro D b; exact Nat.le_of_ble_eq_true rfl) (fun X C hTb => ?_)
  unfold p_L_freeDocks
  refine r_sub [(0, .ref (x_b X + p1)), (1, .int p2), (2, .ref (x_b X + p3))] rfl ?_
  refine r_aload_n (pc := 0) C dL_freeDocks_0 rfl rfl ?_
  refine r_iconst (pc := 1) C dL_freeDocks_1 ki_0 ?_
  refine r_aload_n (pc := 2) C dL_freeDocks_2 rfl rfl ?_
  refine r_iload_n (pc := 3) C dL_freeDocks_3 rfl rfl ?_
  refine r_catch (pc := 4) C hTb [.int p2] [.int 0, .ref (x_b X + p3)] (s_X8_freeDocks p1 p2) mt_X8_freeDocks zc_8 dL_freeDocks_4 ml_L_23 im_X8_freeDocks se_X8_freeDocks rfl rfl rfl (Nat.le_of_ble_eq_true rfl) ⟨Nat.le_of_ble_eq_true rfl, Nat.le_of_ble_eq_true rfl⟩ (fun E => ?_) (fun r1 => ?_)
  · by_cases h0 : E = "java/lang/IndexOutOfBoundsException"
    · subst h0
      refine Or.inr ⟨[], ⟨0, 9, 12, 21⟩, [], rfl, (fun z hz => nomatch hz), by decide, by decide, cl_L_21, by decide, fun q => ?_⟩
      rw [if_pos rfl]
      refine r_sta_n (pc := 12) C 3 [] dL_freeDocks_12 rfl (by decide) rfl ?_
      refine r_iconst (pc := 13) C dL_freeDocks_13 ki_1 ?_
      exact r_iret (pc := 14) C dL_freeDocks_14
    · rw [if_neg h0]; exact Or.inl rfl
  · refine r_i2l (pc := 7) C dL_freeDocks_7 ?_
    refine r_last (pc := 8) C dL_freeDocks_8 ?_
    refine r_goto (pc := 9) C (tgt := 15) dL_freeDocks_9 rfl ?_
    refine r_iconst (pc := 15) C dL_freeDocks_15 ki_0 ?_
    exact r_iret (pc := 16) C dL_freeDocks_16
noncomputable def p_L_brokenDocks (p1 : Nat) (p2 : Int32) (p3 : Nat) : zP Int32 := (z_ct (z_cv 8 p1 (p_X8_brokenDocks p1 p2)) (fun E => if E = "java/lang/IndexOutOfBoundsException" then z_pu 1 else z_fl) (fun r1 => (z_bd (z_sJ 15 p3 0 ((r1 : Int32).toInt64)) (fun _ => (z_pu 0)))))
theorem mh_L_brokenDocks : z_MtH yL_brokenDocks cL_brokenDocks 4 (some .int) [(0, 9, 12, 21)] 3 := ⟨XT_t 835 (by decide +kernel) rfl, ini_L, by decide, by decide, by decide +kernel⟩
set_option maxHeartbeats 4000000 in
set_option maxRecDepth 100000 in
theorem s_L_brokenDocks (p1 : Nat) (p2 : Int32) (p3 : Nat) : z_SoundH yL_brokenDocks cL_brokenDocks 4 (some .int) [(0, 9, 12, 21)] 8 124 (fun D b => [.ref (b + p1), .int p2, .ref (b + p3)]) z_ivI (p_L_brokenDocks p1 p2 p3) := by
  refine z_ofSimH rfl (by intro D b; exact Nat.le_of_ble_eq_true rfl) (fun X C hTb => ?_)
  unfold p_L_brokenDocks
  refine r_sub [(0, .ref (x_b X + p1)), (1, .int p2), (2, .ref (x_b X + p3))] rfl ?_
  refine r_aload_n (pc := 0) C dL_brokenDocks_0 rfl rfl ?_
  refine r_iconst (pc := 1) C dL_brokenDocks_1 ki_0 ?_
  refine r_aload_n (pc := 2) C dL_brokenDocks_2 rfl rfl ?_
  refine r_iload_n (pc := 3) C dL_brokenDocks_3 rfl rfl ?_
  refine r_catch (pc := 4) C hTb [.int p2] [.int 0, .ref (x_b X + p3)] (s_X8_brokenDocks p1 p2) mt_X8_brokenDocks zc_8 dL_brokenDocks_4 ml_L_26 im_X8_brokenDocks se_X8_brokenDocks rfl rfl rfl (Nat.le_of_ble_eq_true rfl) ⟨Nat.le_of_ble_eq_true rfl, Nat.le_of_ble_eq_true rfl⟩ (fun E => ?_) (fun r1 => ?_)
  · by_cases h0 : E = "java/lang/IndexOutOfBoundsException"
    · subst h0
      refine Or.inr ⟨[], ⟨0, 9, 12, 21⟩, [], rfl, (fun z hz => nomatch hz), by decide, by decide, cl_L_21, by decide, fun q => ?_⟩
      rw [if_pos rfl]
      refine r_sta_n (pc := 12) C 3 [] dL_brokenDocks_12 rfl (by decide) rfl ?_
      refine r_iconst (pc := 13) C dL_brokenDocks_13 ki_1 ?_
      exact r_iret (pc := 14) C dL_brokenDocks_14
    · rw [if_neg h0]; exact Or.inl rfl
  · refine r_i2l (pc := 7) C dL_brokenDocks_7 ?_
    refine r_last (pc := 8) C dL_brokenDocks_8 ?_
    refine r_goto (pc := 9) C (tgt := 15) dL_brokenDocks_9 rfl ?_
    refine r_iconst (pc := 15) C dL_brokenDocks_15 ki_0 ?_
    exact r_iret (pc := 16) C dL_brokenDocks_16
noncomputable def p_L_isBalanced (p1 : Nat) (p2 : Int32) (p3 : Nat) : zP Int32 := (z_ct (z_cv 8 p1 (p_X8_isBalanced p1 p2)) (fun E => if E = "java/lang/IndexOutOfBoundsException" then z_pu 1 else z_fl) (fun r1 => (z_jn (τ := Int64) (if r1 = 0 then (z_pu (.inl 0)) else (z_pu (.inl 1))) (fun t2 => (z_bd (z_sJ 15 p3 0 t2) (fun _ => (z_pu 0)))))))
theorem mh_L_isBalanced : z_MtH yL_isBalanced cL_isBalanced 4 (some .int) [(0, 16, 19, 21)] 3 := ⟨XT_t 842 (by decide +kernel) rfl, ini_L, by decide, by decide, by decide +kernel⟩
set_option maxHeartbeats 4000000 in
set_option maxRecDepth 100000 in
theorem s_L_isBalanced (p1 : Nat) (p2 : Int32) (p3 : Nat) : z_SoundH yL_isBalanced cL_isBalanced 4 (some .int) [(0, 16, 19, 21)] 8 124 (fun D b => [.ref (b + p1), .int p2, .ref (b + p3)]) z_ivI (p_L_isBalanced p1 p2 p3) := by
  refine z_ofSimH rfl (by intro D b; exact Nat.le_of_ble_eq_true rfl) (fun X C hTb => ?_)
  unfold p_L_isBalanced
  refine r_sub [(0, .ref (x_b X + p1)), (1, .int p2), (2, .ref (x_b X + p3))] rfl ?_
  refine r_aload_n (pc := 0) C dL_isBalanced_0 rfl rfl ?_
  refine r_iconst (pc := 1) C dL_isBalanced_1 ki_0 ?_
  refine r_aload_n (pc := 2) C dL_isBalanced_2 rfl rfl ?_
  refine r_iload_n (pc := 3) C dL_isBalanced_3 rfl rfl ?_
  refine r_catch (pc := 4) C hTb [.int p2] [.int 0, .ref (x_b X + p3)] (s_X8_isBalanced p1 p2) mt_X8_isBalanced zc_8 dL_isBalanced_4 ml_L_29 im_X8_isBalanced se_X8_isBalanced rfl rfl rfl (Nat.le_of_ble_eq_true rfl) ⟨Nat.le_of_ble_eq_true rfl, Nat.le_of_ble_eq_true rfl⟩ (fun E => ?_) (fun r1 => ?_)
  · by_cases h0 : E = "java/lang/IndexOutOfBoundsException"
    · subst h0
      refine Or.inr ⟨[], ⟨0, 16, 19, 21⟩, [], rfl, (fun z hz => nomatch hz), by decide, by decide, cl_L_21, by decide, fun q => ?_⟩
      rw [if_pos rfl]
      refine r_sta_n (pc := 19) C 3 [] dL_isBalanced_19 rfl (by decide) rfl ?_
      refine r_iconst (pc := 20) C dL_isBalanced_20 ki_1 ?_
      exact r_iret (pc := 21) C dL_isBalanced_21
    · rw [if_neg h0]; exact Or.inl rfl
  · refine r_jn 15 (fun (t2 : Int64) => []) (fun (t2 : Int64) => [.long t2, .int 0, .ref (x_b X + p3)]) (fun t2 => ?_) ?_
    · refine r_last (pc := 15) C dL_isBalanced_15 ?_
      refine r_goto (pc := 16) C (tgt := 22) dL_isBalanced_16 rfl ?_
      refine r_iconst (pc := 22) C dL_isBalanced_22 ki_0 ?_
      exact r_iret (pc := 23) C dL_isBalanced_23
    · refine r_if_eq (pc := 7) C (tgt := 14) dL_isBalanced_7 rfl (fun _ => ?_) (fun _ => ?_)
      · refine r_lconst (pc := 14) C dL_isBalanced_14 (v := 0) (by decide) ?_
        refine r_sub [] rfl ?_
        exact r_br (τ := Int64) 0
      · refine r_lconst (pc := 10) C dL_isBalanced_10 (v := 1) (by decide) ?_
        refine r_goto (pc := 11) C (tgt := 15) dL_isBalanced_11 rfl ?_
        refine r_sub [] rfl ?_
        exact r_br (τ := Int64) 1
noncomputable def p_L_nearest (p1 : Nat) (p2 : Int32) (p3 : Int32) (p4 : Nat) : zP Int32 := (z_ct (z_cv 8 p1 (p_X8_nearest p1 p2 p3)) (fun E => if E = "java/lang/IndexOutOfBoundsException" then z_pu 1 else z_fl) (fun r1 => (z_bd (z_sJ 15 p4 0 ((r1 : Int32).toInt64)) (fun _ => (z_pu 0)))))
theorem mh_L_nearest : z_MtH yL_nearest cL_nearest 5 (some .int) [(0, 10, 13, 21)] 4 := ⟨XT_t 849 (by decide +kernel) rfl, ini_L, by decide, by decide, by decide +kernel⟩
set_option maxHeartbeats 4000000 in
set_option maxRecDepth 100000 in
theorem s_L_nearest (p1 : Nat) (p2 : Int32) (p3 : Int32) (p4 : Nat) : z_SoundH yL_nearest cL_nearest 5 (some .int) [(0, 10, 13, 21)] 8 125 (fun D b => [.ref (b + p1), .int p2, .int p3, .ref (b + p4)]) z_ivI (p_L_nearest p1 p2 p3 p4) := by
  refine z_ofSimH rfl (by intro D b; exact Nat.le_of_ble_eq_true rfl) (fun X C hTb => ?_)
  unfold p_L_nearest
  refine r_sub [(0, .ref (x_b X + p1)), (1, .int p2), (2, .int p3), (3, .ref (x_b X + p4))] rfl ?_
  refine r_aload_n (pc := 0) C dL_nearest_0 rfl rfl ?_
  refine r_iconst (pc := 1) C dL_nearest_1 ki_0 ?_
  refine r_aload_n (pc := 2) C dL_nearest_2 rfl rfl ?_
  refine r_iload_n (pc := 3) C dL_nearest_3 rfl rfl ?_
  refine r_iload_n (pc := 4) C dL_nearest_4 rfl rfl ?_
  refine r_catch (pc := 5) C hTb [.int p2, .int p3] [.int 0, .ref (x_b X + p4)] (s_X8_nearest p1 p2 p3) mt_X8_nearest zc_8 dL_nearest_5 ml_L_33 im_X8_nearest se_X8_nearest rfl rfl rfl (Nat.le_of_ble_eq_true rfl) ⟨Nat.le_of_ble_eq_true rfl, Nat.le_of_ble_eq_true rfl⟩ (fun E => ?_) (fun r1 => ?_)
  · by_cases h0 : E = "java/lang/IndexOutOfBoundsException"
    · subst h0
      refine Or.inr ⟨[], ⟨0, 10, 13, 21⟩, [], rfl, (fun z hz => nomatch hz), by decide, by decide, cl_L_21, by decide, fun q => ?_⟩
      rw [if_pos rfl]
      refine r_sta (pc := 13) C [] dL_nearest_13 (by decide) rfl ?_
      refine r_iconst (pc := 15) C dL_nearest_15 ki_1 ?_
      exact r_iret (pc := 16) C dL_nearest_16
    · rw [if_neg h0]; exact Or.inl rfl
  · refine r_i2l (pc := 8) C dL_nearest_8 ?_
    refine r_last (pc := 9) C dL_nearest_9 ?_
    refine r_goto (pc := 10) C (tgt := 17) dL_nearest_10 rfl ?_
    refine r_iconst (pc := 17) C dL_nearest_17 ki_0 ?_
    exact r_iret (pc := 18) C dL_nearest_18
noncomputable def p_L_rideMinutes (p1 : Nat) (p2 : Int32) (p3 : Int32) (p4 : Nat) : zP Int32 := (z_ct (z_cv 8 p1 (p_X8_rideMinutes p1 p2 p3)) (fun E => if E = "java/lang/IndexOutOfBoundsException" then z_pu 1 else z_fl) (fun r1 => (z_bd (z_sJ 15 p4 0 ((r1 : Int32).toInt64)) (fun _ => (z_pu 0)))))
theorem mh_L_rideMinutes : z_MtH yL_rideMinutes cL_rideMinutes 5 (some .int) [(0, 10, 13, 21)] 4 := ⟨XT_t 864 (by decide +kernel) rfl, ini_L, by decide, by decide, by decide +kernel⟩
set_option maxHeartbeats 4000000 in
set_option maxRecDepth 100000 in
theorem s_L_rideMinutes (p1 : Nat) (p2 : Int32) (p3 : Int32) (p4 : Nat) : z_SoundH yL_rideMinutes cL_rideMinutes 5 (some .int) [(0, 10, 13, 21)] 8 125 (fun D b => [.ref (b + p1), .int p2, .int p3, .ref (b + p4)]) z_ivI (p_L_rideMinutes p1 p2 p3 p4) := by
  refine z_ofSimH rfl (by intro D b; exact Nat.le_of_ble_eq_true rfl) (fun X C hTb => ?_)
  unfold p_L_rideMinutes
  refine r_sub [(0, .ref (x_b X + p1)), (1, .int p2), (2, .int p3), (3, .ref (x_b X + p4))] rfl ?_
  refine r_aload_n (pc := 0) C dL_rideMinutes_0 rfl rfl ?_
  refine r_iconst (pc := 1) C dL_rideMinutes_1 ki_0 ?_
  refine r_aload_n (pc := 2) C dL_rideMinutes_2 rfl rfl ?_
  refine r_iload_n (pc := 3) C dL_rideMinutes_3 rfl rfl ?_
  refine r_iload_n (pc := 4) C dL_rideMinutes_4 rfl rfl ?_
  refine r_catch (pc := 5) C hTb [.int p2, .int p3] [.int 0, .ref (x_b X + p4)] (s_X8_rideMinutes p1 p2 p3) mt_X8_rideMinutes zc_8 dL_rideMinutes_5 ml_L_37 im_X8_rideMinutes se_X8_rideMinutes rfl rfl rfl (Nat.le_of_ble_eq_true rfl) ⟨Nat.le_of_ble_eq_true rfl, Nat.le_of_ble_eq_true rfl⟩ (fun E => ?_) (fun r1 => ?_)
  · by_cases h0 : E = "java/lang/IndexOutOfBoundsException"
    · subst h0
      refine Or.inr ⟨[], ⟨0, 10, 13, 21⟩, [], rfl, (fun z hz => nomatch hz), by decide, by decide, cl_L_21, by decide, fun q => ?_⟩
      rw [if_pos rfl]
      refine r_sta (pc := 13) C [] dL_rideMinutes_13 (by decide) rfl ?_
      refine r_iconst (pc := 15) C dL_rideMinutes_15 ki_1 ?_
      exact r_iret (pc := 16) C dL_rideMinutes_16
    · rw [if_neg h0]; exact Or.inl rfl
  · refine r_i2l (pc := 8) C dL_rideMinutes_8 ?_
    refine r_last (pc := 9) C dL_rideMinutes_9 ?_
    refine r_goto (pc := 10) C (tgt := 17) dL_rideMinutes_10 rfl ?_
    refine r_iconst (pc := 17) C dL_rideMinutes_17 ki_0 ?_
    exact r_iret (pc := 18) C dL_rideMinutes_18
noncomputable def p_L_quote (p1 : Nat) (p2 : Int32) (p3 : Int32) (p4 : Nat) : zP Int32 := (z_ct (z_cv 8 p1 (p_X8_quote p1 p2 p3)) (fun E => if E = "java/lang/IndexOutOfBoundsException" then z_pu 1 else z_fl) (fun r1 => (z_bd (z_sJ 15 p4 0 ((r1 : Int32).toInt64)) (fun _ => (z_pu 0)))))
theorem mh_L_quote : z_MtH yL_quote cL_quote 5 (some .int) [(0, 10, 13, 21)] 4 := ⟨XT_t 876 (by decide +kernel) rfl, ini_L, by decide, by decide, by decide +kernel⟩
set_option maxHeartbeats 4000000 in
set_option maxRecDepth 100000 in
theorem s_L_quote (p1 : Nat) (p2 : Int32) (p3 : Int32) (p4 : Nat) : z_SoundH yL_quote cL_quote 5 (some .int) [(0, 10, 13, 21)] 8 125 (fun D b => [.ref (b + p1), .int p2, .int p3, .ref (b + p4)]) z_ivI (p_L_quote p1 p2 p3 p4) := by
  refine z_ofSimH rfl (by intro D b; exact Nat.le_of_ble_eq_true rfl) (fun X C hTb => ?_)
  unfold p_L_quote
  refine r_sub [(0, .ref (x_b X + p1)), (1, .int p2), (2, .int p3), (3, .ref (x_b X + p4))] rfl ?_
  refine r_aload_n (pc := 0) C dL_quote_0 rfl rfl ?_
  refine r_iconst (pc := 1) C dL_quote_1 ki_0 ?_
  refine r_aload_n (pc := 2) C dL_quote_2 rfl rfl ?_
  refine r_iload_n (pc := 3) C dL_quote_3 rfl rfl ?_
  refine r_iload_n (pc := 4) C dL_quote_4 rfl rfl ?_
  refine r_catch (pc := 5) C hTb [.int p2, .int p3] [.int 0, .ref (x_b X + p4)] (s_X8_quote p1 p2 p3) mt_X8_quote zc_8 dL_quote_5 ml_L_41 im_X8_quote se_X8_quote rfl rfl rfl (Nat.le_of_ble_eq_true rfl) ⟨Nat.le_of_ble_eq_true rfl, Nat.le_of_ble_eq_true rfl⟩ (fun E => ?_) (fun r1 => ?_)
  · by_cases h0 : E = "java/lang/IndexOutOfBoundsException"
    · subst h0
      refine Or.inr ⟨[], ⟨0, 10, 13, 21⟩, [], rfl, (fun z hz => nomatch hz), by decide, by decide, cl_L_21, by decide, fun q => ?_⟩
      rw [if_pos rfl]
      refine r_sta (pc := 13) C [] dL_quote_13 (by decide) rfl ?_
      refine r_iconst (pc := 15) C dL_quote_15 ki_1 ?_
      exact r_iret (pc := 16) C dL_quote_16
    · rw [if_neg h0]; exact Or.inl rfl
  · refine r_i2l (pc := 8) C dL_quote_8 ?_
    refine r_last (pc := 9) C dL_quote_9 ?_
    refine r_goto (pc := 10) C (tgt := 17) dL_quote_10 rfl ?_
    refine r_iconst (pc := 17) C dL_quote_17 ki_0 ?_
    exact r_iret (pc := 18) C dL_quote_18
noncomputable def p_L_bonusAt (p1 : Nat) (p2 : Int32) (p3 : Nat) : zP Int32 := (z_ct (z_cv 8 p1 (p_X8_bonusAt p1 p2)) (fun E => if E = "java/lang/IndexOutOfBoundsException" then z_pu 1 else z_fl) (fun r1 => (z_bd (z_sJ 15 p3 0 ((r1 : Int32).toInt64)) (fun _ => (z_pu 0)))))
theorem mh_L_bonusAt : z_MtH yL_bonusAt cL_bonusAt 4 (some .int) [(0, 9, 12, 21)] 3 := ⟨XT_t 899 (by decide +kernel) rfl, ini_L, by decide, by decide, by decide +kernel⟩
set_option maxHeartbeats 4000000 in
set_option maxRecDepth 100000 in
theorem s_L_bonusAt (p1 : Nat) (p2 : Int32) (p3 : Nat) : z_SoundH yL_bonusAt cL_bonusAt 4 (some .int) [(0, 9, 12, 21)] 8 124 (fun D b => [.ref (b + p1), .int p2, .ref (b + p3)]) z_ivI (p_L_bonusAt p1 p2 p3) := by
  refine z_ofSimH rfl (by intro D b; exact Nat.le_of_ble_eq_true rfl) (fun X C hTb => ?_)
  unfold p_L_bonusAt
  refine r_sub [(0, .ref (x_b X + p1)), (1, .int p2), (2, .ref (x_b X + p3))] rfl ?_
  refine r_aload_n (pc := 0) C dL_bonusAt_0 rfl rfl ?_
  refine r_iconst (pc := 1) C dL_bonusAt_1 ki_0 ?_
  refine r_aload_n (pc := 2) C dL_bonusAt_2 rfl rfl ?_
  refine r_iload_n (pc := 3) C dL_bonusAt_3 rfl rfl ?_
  refine r_catch (pc := 4) C hTb [.int p2] [.int 0, .ref (x_b X + p3)] (s_X8_bonusAt p1 p2) mt_X8_bonusAt zc_8 dL_bonusAt_4 ml_L_44 im_X8_bonusAt se_X8_bonusAt rfl rfl rfl (Nat.le_of_ble_eq_true rfl) ⟨Nat.le_of_ble_eq_true rfl, Nat.le_of_ble_eq_true rfl⟩ (fun E => ?_) (fun r1 => ?_)
  · by_cases h0 : E = "java/lang/IndexOutOfBoundsException"
    · subst h0
      refine Or.inr ⟨[], ⟨0, 9, 12, 21⟩, [], rfl, (fun z hz => nomatch hz), by decide, by decide, cl_L_21, by decide, fun q => ?_⟩
      rw [if_pos rfl]
      refine r_sta_n (pc := 12) C 3 [] dL_bonusAt_12 rfl (by decide) rfl ?_
      refine r_iconst (pc := 13) C dL_bonusAt_13 ki_1 ?_
      exact r_iret (pc := 14) C dL_bonusAt_14
    · rw [if_neg h0]; exact Or.inl rfl
  · refine r_i2l (pc := 7) C dL_bonusAt_7 ?_
    refine r_last (pc := 8) C dL_bonusAt_8 ?_
    refine r_goto (pc := 9) C (tgt := 15) dL_bonusAt_9 rfl ?_
    refine r_iconst (pc := 15) C dL_bonusAt_15 ki_0 ?_
    exact r_iret (pc := 16) C dL_bonusAt_16
noncomputable def p_L_bestDeal (p1 : Nat) (p2 : Int32) (p3 : Nat) : zP Int32 := (z_ct (z_cv 8 p1 (p_X8_bestDeal p1 p2)) (fun E => if E = "java/lang/IndexOutOfBoundsException" then z_pu 1 else z_fl) (fun r1 => (z_bd (z_sJ 15 p3 0 ((r1 : Int32).toInt64)) (fun _ => (z_pu 0)))))
theorem mh_L_bestDeal : z_MtH yL_bestDeal cL_bestDeal 4 (some .int) [(0, 9, 12, 21)] 3 := ⟨XT_t 910 (by decide +kernel) rfl, ini_L, by decide, by decide, by decide +kernel⟩
set_option maxHeartbeats 4000000 in
set_option maxRecDepth 100000 in
theorem s_L_bestDeal (p1 : Nat) (p2 : Int32) (p3 : Nat) : z_SoundH yL_bestDeal cL_bestDeal 4 (some .int) [(0, 9, 12, 21)] 8 128 (fun D b => [.ref (b + p1), .int p2, .ref (b + p3)]) z_ivI (p_L_bestDeal p1 p2 p3) := by
  refine z_ofSimH rfl (by intro D b; exact Nat.le_of_ble_eq_true rfl) (fun X C hTb => ?_)
  unfold p_L_bestDeal
  refine r_sub [(0, .ref (x_b X + p1)), (1, .int p2), (2, .ref (x_b X + p3))] rfl ?_
  refine r_aload_n (pc := 0) C dL_bestDeal_0 rfl rfl ?_
  refine r_iconst (pc := 1) C dL_bestDeal_1 ki_0 ?_
  refine r_aload_n (pc := 2) C dL_bestDeal_2 rfl rfl ?_
  refine r_iload_n (pc := 3) C dL_bestDeal_3 rfl rfl ?_
  refine r_catch (pc := 4) C hTb [.int p2] [.int 0, .ref (x_b X + p3)] (s_X8_bestDeal p1 p2) mt_X8_bestDeal zc_8 dL_bestDeal_4 ml_L_47 im_X8_bestDeal se_X8_bestDeal rfl rfl rfl (Nat.le_of_ble_eq_true rfl) ⟨Nat.le_of_ble_eq_true rfl, Nat.le_of_ble_eq_true rfl⟩ (fun E => ?_) (fun r1 => ?_)
  · by_cases h0 : E = "java/lang/IndexOutOfBoundsException"
    · subst h0
      refine Or.inr ⟨[], ⟨0, 9, 12, 21⟩, [], rfl, (fun z hz => nomatch hz), by decide, by decide, cl_L_21, by decide, fun q => ?_⟩
      rw [if_pos rfl]
      refine r_sta_n (pc := 12) C 3 [] dL_bestDeal_12 rfl (by decide) rfl ?_
      refine r_iconst (pc := 13) C dL_bestDeal_13 ki_1 ?_
      exact r_iret (pc := 14) C dL_bestDeal_14
    · rw [if_neg h0]; exact Or.inl rfl
  · refine r_i2l (pc := 7) C dL_bestDeal_7 ?_
    refine r_last (pc := 8) C dL_bestDeal_8 ?_
    refine r_goto (pc := 9) C (tgt := 15) dL_bestDeal_9 rfl ?_
    refine r_iconst (pc := 15) C dL_bestDeal_15 ki_0 ?_
    exact r_iret (pc := 16) C dL_bestDeal_16
noncomputable def p_L_rider (p1 : Nat) (p2 : Int32) (p3 : Int32) (p4 : Nat) : zP Int32 := (z_ct (z_cv 8 p1 (p_X8_rider p1 p2 p3)) (fun E => if E = "java/lang/IndexOutOfBoundsException" then z_pu 1 else if E = "java/lang/IllegalArgumentException" then z_pu 2 else z_fl) (fun r1 => (z_bd (z_sJ 15 p4 0 ((r1 : Int32).toInt64)) (fun _ => (z_pu 0)))))
theorem mh_L_rider : z_MtH yL_rider cL_rider 5 (some .int) [(0, 10, 13, 21), (0, 10, 17, 13)] 4 := ⟨XT_t 917 (by decide +kernel) rfl, ini_L, by decide, by decide, by decide +kernel⟩
set_option maxHeartbeats 4000000 in
set_option maxRecDepth 100000 in
theorem s_L_rider (p1 : Nat) (p2 : Int32) (p3 : Int32) (p4 : Nat) : z_SoundH yL_rider cL_rider 5 (some .int) [(0, 10, 13, 21), (0, 10, 17, 13)] 7 105 (fun D b => [.ref (b + p1), .int p2, .int p3, .ref (b + p4)]) z_ivI (p_L_rider p1 p2 p3 p4) := by
  refine z_ofSimH rfl (by intro D b; exact Nat.le_of_ble_eq_true rfl) (fun X C hTb => ?_)
  unfold p_L_rider
  refine r_sub [(0, .ref (x_b X + p1)), (1, .int p2), (2, .int p3), (3, .ref (x_b X + p4))] rfl ?_
  refine r_aload_n (pc := 0) C dL_rider_0 rfl rfl ?_
  refine r_iconst (pc := 1) C dL_rider_1 ki_0 ?_
  refine r_aload_n (pc := 2) C dL_rider_2 rfl rfl ?_
  refine r_iload_n (pc := 3) C dL_rider_3 rfl rfl ?_
  refine r_iload_n (pc := 4) C dL_rider_4 rfl rfl ?_
  refine r_catch (pc := 5) C hTb [.int p2, .int p3] [.int 0, .ref (x_b X + p4)] (s_X8_rider p1 p2 p3) mt_X8_rider zc_8 dL_rider_5 ml_L_50 im_X8_rider se_X8_rider rfl rfl rfl (Nat.le_of_ble_eq_true rfl) ⟨Nat.le_of_ble_eq_true rfl, Nat.le_of_ble_eq_true rfl⟩ (fun E => ?_) (fun r1 => ?_)
  · by_cases h0 : E = "java/lang/IndexOutOfBoundsException"
    · subst h0
      refine Or.inr ⟨[], ⟨0, 10, 13, 21⟩, [⟨0, 10, 17, 13⟩], rfl, (fun z hz => nomatch hz), by decide, by decide, cl_L_21, by decide, fun q => ?_⟩
      rw [if_pos rfl]
      refine r_sta (pc := 13) C [] dL_rider_13 (by decide) rfl ?_
      refine r_iconst (pc := 15) C dL_rider_15 ki_1 ?_
      exact r_iret (pc := 16) C dL_rider_16
    · skip
      by_cases h1 : E = "java/lang/IllegalArgumentException"
      · subst h1
        refine Or.inr ⟨[⟨0, 10, 13, 21⟩], ⟨0, 10, 17, 13⟩, [], rfl, (List.forall_mem_cons.mpr ⟨⟨by decide, _, cl_L_21, by decide, by decide⟩, fun z hz => nomatch hz⟩), by decide, by decide, cl_L_13, by decide, fun q => ?_⟩
        rw [if_neg (by decide)]; rw [if_pos rfl]
        refine r_sta (pc := 17) C [] dL_rider_17 (by decide) rfl ?_
        refine r_iconst (pc := 19) C dL_rider_19 ki_2 ?_
        exact r_iret (pc := 20) C dL_rider_20
      · rw [if_neg h0, if_neg h1]; exact Or.inl rfl
  · refine r_i2l (pc := 8) C dL_rider_8 ?_
    refine r_last (pc := 9) C dL_rider_9 ?_
    refine r_goto (pc := 10) C (tgt := 21) dL_rider_10 rfl ?_
    refine r_iconst (pc := 21) C dL_rider_21 ki_0 ?_
    exact r_iret (pc := 22) C dL_rider_22
noncomputable def p_L_ridesBetween (p1 : Nat) (p2 : Int32) (p3 : Int32) (p4 : Nat) : zP Int32 := (z_ct (z_cv 8 p1 (p_X8_ridesBetween p1 p2 p3)) (fun E => if E = "java/lang/IndexOutOfBoundsException" then z_pu 1 else z_fl) (fun r1 => (z_bd (z_sJ 15 p4 0 ((r1 : Int32).toInt64)) (fun _ => (z_pu 0)))))
theorem mh_L_ridesBetween : z_MtH yL_ridesBetween cL_ridesBetween 5 (some .int) [(0, 10, 13, 21)] 4 := ⟨XT_t 934 (by decide +kernel) rfl, ini_L, by decide, by decide, by decide +kernel⟩
set_option maxHeartbeats 4000000 in
set_option maxRecDepth 100000 in
theorem s_L_ridesBetween (p1 : Nat) (p2 : Int32) (p3 : Int32) (p4 : Nat) : z_SoundH yL_ridesBetween cL_ridesBetween 5 (some .int) [(0, 10, 13, 21)] 8 125 (fun D b => [.ref (b + p1), .int p2, .int p3, .ref (b + p4)]) z_ivI (p_L_ridesBetween p1 p2 p3 p4) := by
  refine z_ofSimH rfl (by intro D b; exact Nat.le_of_ble_eq_true rfl) (fun X C hTb => ?_)
  unfold p_L_ridesBetween
  refine r_sub [(0, .ref (x_b X + p1)), (1, .int p2), (2, .int p3), (3, .ref (x_b X + p4))] rfl ?_
  refine r_aload_n (pc := 0) C dL_ridesBetween_0 rfl rfl ?_
  refine r_iconst (pc := 1) C dL_ridesBetween_1 ki_0 ?_
  refine r_aload_n (pc := 2) C dL_ridesBetween_2 rfl rfl ?_
  refine r_iload_n (pc := 3) C dL_ridesBetween_3 rfl rfl ?_
  refine r_iload_n (pc := 4) C dL_ridesBetween_4 rfl rfl ?_
  refine r_catch (pc := 5) C hTb [.int p2, .int p3] [.int 0, .ref (x_b X + p4)] (s_X8_ridesBetween p1 p2 p3) mt_X8_ridesBetween zc_8 dL_ridesBetween_5 ml_L_53 im_X8_ridesBetween se_X8_ridesBetween rfl rfl rfl (Nat.le_of_ble_eq_true rfl) ⟨Nat.le_of_ble_eq_true rfl, Nat.le_of_ble_eq_true rfl⟩ (fun E => ?_) (fun r1 => ?_)
  · by_cases h0 : E = "java/lang/IndexOutOfBoundsException"
    · subst h0
      refine Or.inr ⟨[], ⟨0, 10, 13, 21⟩, [], rfl, (fun z hz => nomatch hz), by decide, by decide, cl_L_21, by decide, fun q => ?_⟩
      rw [if_pos rfl]
      refine r_sta (pc := 13) C [] dL_ridesBetween_13 (by decide) rfl ?_
      refine r_iconst (pc := 15) C dL_ridesBetween_15 ki_1 ?_
      exact r_iret (pc := 16) C dL_ridesBetween_16
    · rw [if_neg h0]; exact Or.inl rfl
  · refine r_i2l (pc := 8) C dL_ridesBetween_8 ?_
    refine r_last (pc := 9) C dL_ridesBetween_9 ?_
    refine r_goto (pc := 10) C (tgt := 17) dL_ridesBetween_10 rfl ?_
    refine r_iconst (pc := 17) C dL_ridesBetween_17 ki_0 ?_
    exact r_iret (pc := 18) C dL_ridesBetween_18
noncomputable def p_L_truck (p1 : Nat) (p2 : Int32) (p3 : Int32) (p4 : Nat) : zP Int32 := (z_ct (z_cv 8 p1 (p_X8_truck p1 p2 p3)) (fun E => if E = "java/lang/IndexOutOfBoundsException" then z_pu 1 else if E = "java/lang/IllegalArgumentException" then z_pu 2 else z_fl) (fun r1 => (z_bd (z_sJ 15 p4 0 ((r1 : Int32).toInt64)) (fun _ => (z_pu 0)))))
theorem mh_L_truck : z_MtH yL_truck cL_truck 5 (some .int) [(0, 10, 13, 21), (0, 10, 17, 13)] 4 := ⟨XT_t 941 (by decide +kernel) rfl, ini_L, by decide, by decide, by decide +kernel⟩
set_option maxHeartbeats 4000000 in
set_option maxRecDepth 100000 in
theorem s_L_truck (p1 : Nat) (p2 : Int32) (p3 : Int32) (p4 : Nat) : z_SoundH yL_truck cL_truck 5 (some .int) [(0, 10, 13, 21), (0, 10, 17, 13)] 8 126 (fun D b => [.ref (b + p1), .int p2, .int p3, .ref (b + p4)]) z_ivI (p_L_truck p1 p2 p3 p4) := by
  refine z_ofSimH rfl (by intro D b; exact Nat.le_of_ble_eq_true rfl) (fun X C hTb => ?_)
  unfold p_L_truck
  refine r_sub [(0, .ref (x_b X + p1)), (1, .int p2), (2, .int p3), (3, .ref (x_b X + p4))] rfl ?_
  refine r_aload_n (pc := 0) C dL_truck_0 rfl rfl ?_
  refine r_iconst (pc := 1) C dL_truck_1 ki_0 ?_
  refine r_aload_n (pc := 2) C dL_truck_2 rfl rfl ?_
  refine r_iload_n (pc := 3) C dL_truck_3 rfl rfl ?_
  refine r_iload_n (pc := 4) C dL_truck_4 rfl rfl ?_
  refine r_catch (pc := 5) C hTb [.int p2, .int p3] [.int 0, .ref (x_b X + p4)] (s_X8_truck p1 p2 p3) mt_X8_truck zc_8 dL_truck_5 ml_L_56 im_X8_truck se_X8_truck rfl rfl rfl (Nat.le_of_ble_eq_true rfl) ⟨Nat.le_of_ble_eq_true rfl, Nat.le_of_ble_eq_true rfl⟩ (fun E => ?_) (fun r1 => ?_)
  · by_cases h0 : E = "java/lang/IndexOutOfBoundsException"
    · subst h0
      refine Or.inr ⟨[], ⟨0, 10, 13, 21⟩, [⟨0, 10, 17, 13⟩], rfl, (fun z hz => nomatch hz), by decide, by decide, cl_L_21, by decide, fun q => ?_⟩
      rw [if_pos rfl]
      refine r_sta (pc := 13) C [] dL_truck_13 (by decide) rfl ?_
      refine r_iconst (pc := 15) C dL_truck_15 ki_1 ?_
      exact r_iret (pc := 16) C dL_truck_16
    · skip
      by_cases h1 : E = "java/lang/IllegalArgumentException"
      · subst h1
        refine Or.inr ⟨[⟨0, 10, 13, 21⟩], ⟨0, 10, 17, 13⟩, [], rfl, (List.forall_mem_cons.mpr ⟨⟨by decide, _, cl_L_21, by decide, by decide⟩, fun z hz => nomatch hz⟩), by decide, by decide, cl_L_13, by decide, fun q => ?_⟩
        rw [if_neg (by decide)]; rw [if_pos rfl]
        refine r_sta (pc := 17) C [] dL_truck_17 (by decide) rfl ?_
        refine r_iconst (pc := 19) C dL_truck_19 ki_2 ?_
        exact r_iret (pc := 20) C dL_truck_20
      · rw [if_neg h0, if_neg h1]; exact Or.inl rfl
  · refine r_i2l (pc := 8) C dL_truck_8 ?_
    refine r_last (pc := 9) C dL_truck_9 ?_
    refine r_goto (pc := 10) C (tgt := 21) dL_truck_10 rfl ?_
    refine r_iconst (pc := 21) C dL_truck_21 ki_0 ?_
    exact r_iret (pc := 22) C dL_truck_22
noncomputable def p_L_tourMinutes (p1 : Nat) (p2 : Int32) (p3 : Nat) : zP Int32 := (z_ct (z_cv 8 p1 (p_X8_tourMinutes p1 p2)) (fun E => if E = "java/lang/IndexOutOfBoundsException" then z_pu 1 else if E = "java/lang/IllegalStateException" then z_pu 2 else z_fl) (fun r1 => (z_bd (z_sJ 15 p3 0 ((r1 : Int32).toInt64)) (fun _ => (z_pu 0)))))
theorem mh_L_tourMinutes : z_MtH yL_tourMinutes cL_tourMinutes 4 (some .int) [(0, 9, 12, 21), (0, 9, 15, 62)] 3 := ⟨XT_t 957 (by decide +kernel) rfl, ini_L, by decide, by decide, by decide +kernel⟩
set_option maxHeartbeats 4000000 in
set_option maxRecDepth 100000 in
theorem s_L_tourMinutes (p1 : Nat) (p2 : Int32) (p3 : Nat) : z_SoundH yL_tourMinutes cL_tourMinutes 4 (some .int) [(0, 9, 12, 21), (0, 9, 15, 62)] 17 475 (fun D b => [.ref (b + p1), .int p2, .ref (b + p3)]) z_ivI (p_L_tourMinutes p1 p2 p3) := by
  refine z_ofSimH rfl (by intro D b; exact Nat.le_of_ble_eq_true rfl) (fun X C hTb => ?_)
  unfold p_L_tourMinutes
  refine r_sub [(0, .ref (x_b X + p1)), (1, .int p2), (2, .ref (x_b X + p3))] rfl ?_
  refine r_aload_n (pc := 0) C dL_tourMinutes_0 rfl rfl ?_
  refine r_iconst (pc := 1) C dL_tourMinutes_1 ki_0 ?_
  refine r_aload_n (pc := 2) C dL_tourMinutes_2 rfl rfl ?_
  refine r_iload_n (pc := 3) C dL_tourMinutes_3 rfl rfl ?_
  refine r_catch (pc := 4) C hTb [.int p2] [.int 0, .ref (x_b X + p3)] (s_X8_tourMinutes p1 p2) mt_X8_tourMinutes zc_8 dL_tourMinutes_4 ml_L_59 im_X8_tourMinutes se_X8_tourMinutes rfl rfl rfl (Nat.le_of_ble_eq_true rfl) ⟨Nat.le_of_ble_eq_true rfl, Nat.le_of_ble_eq_true rfl⟩ (fun E => ?_) (fun r1 => ?_)
  · by_cases h0 : E = "java/lang/IndexOutOfBoundsException"
    · subst h0
      refine Or.inr ⟨[], ⟨0, 9, 12, 21⟩, [⟨0, 9, 15, 62⟩], rfl, (fun z hz => nomatch hz), by decide, by decide, cl_L_21, by decide, fun q => ?_⟩
      rw [if_pos rfl]
      refine r_sta_n (pc := 12) C 3 [] dL_tourMinutes_12 rfl (by decide) rfl ?_
      refine r_iconst (pc := 13) C dL_tourMinutes_13 ki_1 ?_
      exact r_iret (pc := 14) C dL_tourMinutes_14
    · skip
      by_cases h1 : E = "java/lang/IllegalStateException"
      · subst h1
        refine Or.inr ⟨[⟨0, 9, 12, 21⟩], ⟨0, 9, 15, 62⟩, [], rfl, (List.forall_mem_cons.mpr ⟨⟨by decide, _, cl_L_21, by decide, by decide⟩, fun z hz => nomatch hz⟩), by decide, by decide, cl_L_62, by decide, fun q => ?_⟩
        rw [if_neg (by decide)]; rw [if_pos rfl]
        refine r_sta_n (pc := 15) C 3 [] dL_tourMinutes_15 rfl (by decide) rfl ?_
        refine r_iconst (pc := 16) C dL_tourMinutes_16 ki_2 ?_
        exact r_iret (pc := 17) C dL_tourMinutes_17
      · rw [if_neg h0, if_neg h1]; exact Or.inl rfl
  · refine r_i2l (pc := 7) C dL_tourMinutes_7 ?_
    refine r_last (pc := 8) C dL_tourMinutes_8 ?_
    refine r_goto (pc := 9) C (tgt := 18) dL_tourMinutes_9 rfl ?_
    refine r_iconst (pc := 18) C dL_tourMinutes_18 ki_0 ?_
    exact r_iret (pc := 19) C dL_tourMinutes_19
noncomputable def p_L_tourStop (p1 : Nat) (p2 : Int32) (p3 : Int32) (p4 : Nat) : zP Int32 := (z_ct (z_cv 8 p1 (p_X8_tourStop p1 p2 p3)) (fun E => if E = "java/lang/IndexOutOfBoundsException" then z_pu 1 else if E = "java/lang/IllegalStateException" then z_pu 2 else z_fl) (fun r1 => (z_bd (z_sJ 15 p4 0 ((r1 : Int32).toInt64)) (fun _ => (z_pu 0)))))
theorem mh_L_tourStop : z_MtH yL_tourStop cL_tourStop 5 (some .int) [(0, 10, 13, 21), (0, 10, 17, 62)] 4 := ⟨XT_t 1033 (by decide +kernel) rfl, ini_L, by decide, by decide, by decide +kernel⟩
set_option maxHeartbeats 4000000 in
set_option maxRecDepth 100000 in
theorem s_L_tourStop (p1 : Nat) (p2 : Int32) (p3 : Int32) (p4 : Nat) : z_SoundH yL_tourStop cL_tourStop 5 (some .int) [(0, 10, 13, 21), (0, 10, 17, 62)] 17 476 (fun D b => [.ref (b + p1), .int p2, .int p3, .ref (b + p4)]) z_ivI (p_L_tourStop p1 p2 p3 p4) := by
  refine z_ofSimH rfl (by intro D b; exact Nat.le_of_ble_eq_true rfl) (fun X C hTb => ?_)
  unfold p_L_tourStop
  refine r_sub [(0, .ref (x_b X + p1)), (1, .int p2), (2, .int p3), (3, .ref (x_b X + p4))] rfl ?_
  refine r_aload_n (pc := 0) C dL_tourStop_0 rfl rfl ?_
  refine r_iconst (pc := 1) C dL_tourStop_1 ki_0 ?_
  refine r_aload_n (pc := 2) C dL_tourStop_2 rfl rfl ?_
  refine r_iload_n (pc := 3) C dL_tourStop_3 rfl rfl ?_
  refine r_iload_n (pc := 4) C dL_tourStop_4 rfl rfl ?_
  refine r_catch (pc := 5) C hTb [.int p2, .int p3] [.int 0, .ref (x_b X + p4)] (s_X8_tourStop p1 p2 p3) mt_X8_tourStop zc_8 dL_tourStop_5 ml_L_64 im_X8_tourStop se_X8_tourStop rfl rfl rfl (Nat.le_of_ble_eq_true rfl) ⟨Nat.le_of_ble_eq_true rfl, Nat.le_of_ble_eq_true rfl⟩ (fun E => ?_) (fun r1 => ?_)
  · by_cases h0 : E = "java/lang/IndexOutOfBoundsException"
    · subst h0
      refine Or.inr ⟨[], ⟨0, 10, 13, 21⟩, [⟨0, 10, 17, 62⟩], rfl, (fun z hz => nomatch hz), by decide, by decide, cl_L_21, by decide, fun q => ?_⟩
      rw [if_pos rfl]
      refine r_sta (pc := 13) C [] dL_tourStop_13 (by decide) rfl ?_
      refine r_iconst (pc := 15) C dL_tourStop_15 ki_1 ?_
      exact r_iret (pc := 16) C dL_tourStop_16
    · skip
      by_cases h1 : E = "java/lang/IllegalStateException"
      · subst h1
        refine Or.inr ⟨[⟨0, 10, 13, 21⟩], ⟨0, 10, 17, 62⟩, [], rfl, (List.forall_mem_cons.mpr ⟨⟨by decide, _, cl_L_21, by decide, by decide⟩, fun z hz => nomatch hz⟩), by decide, by decide, cl_L_62, by decide, fun q => ?_⟩
        rw [if_neg (by decide)]; rw [if_pos rfl]
        refine r_sta (pc := 17) C [] dL_tourStop_17 (by decide) rfl ?_
        refine r_iconst (pc := 19) C dL_tourStop_19 ki_2 ?_
        exact r_iret (pc := 20) C dL_tourStop_20
      · rw [if_neg h0, if_neg h1]; exact Or.inl rfl
  · refine r_i2l (pc := 8) C dL_tourStop_8 ?_
    refine r_last (pc := 9) C dL_tourStop_9 ?_
    refine r_goto (pc := 10) C (tgt := 21) dL_tourStop_10 rfl ?_
    refine r_iconst (pc := 21) C dL_tourStop_21 ki_0 ?_
    exact r_iret (pc := 22) C dL_tourStop_22
noncomputable def p_L_total (p1 : Nat) (p2 : Int32) (p3 : Nat) : zP Int32 := (z_ct (z_cv 8 p1 (p_X8_total p1 p2)) (fun E => if E = "java/lang/IllegalArgumentException" then z_pu 1 else z_fl) (fun r1 => (z_bd (z_sJ 15 p3 0 ((r1 : Int32).toInt64)) (fun _ => (z_pu 0)))))
theorem mh_L_total : z_MtH yL_total cL_total 4 (some .int) [(0, 9, 12, 13)] 3 := ⟨XT_t 1040 (by decide +kernel) rfl, ini_L, by decide, by decide, by decide +kernel⟩
set_option maxHeartbeats 4000000 in
set_option maxRecDepth 100000 in
theorem s_L_total (p1 : Nat) (p2 : Int32) (p3 : Nat) : z_SoundH yL_total cL_total 4 (some .int) [(0, 9, 12, 13)] 9 145 (fun D b => [.ref (b + p1), .int p2, .ref (b + p3)]) z_ivI (p_L_total p1 p2 p3) := by
  refine z_ofSimH rfl (by intro D b; exact Nat.le_of_ble_eq_true rfl) (fun X C hTb => ?_)
  unfold p_L_total
  refine r_sub [(0, .ref (x_b X + p1)), (1, .int p2), (2, .ref (x_b X + p3))] rfl ?_
  refine r_aload_n (pc := 0) C dL_total_0 rfl rfl ?_
  refine r_iconst (pc := 1) C dL_total_1 ki_0 ?_
  refine r_aload_n (pc := 2) C dL_total_2 rfl rfl ?_
  refine r_iload_n (pc := 3) C dL_total_3 rfl rfl ?_
  refine r_catch (pc := 4) C hTb [.int p2] [.int 0, .ref (x_b X + p3)] (s_X8_total p1 p2) mt_X8_total zc_8 dL_total_4 ml_L_67 im_X8_total se_X8_total rfl rfl rfl (Nat.le_of_ble_eq_true rfl) ⟨Nat.le_of_ble_eq_true rfl, Nat.le_of_ble_eq_true rfl⟩ (fun E => ?_) (fun r1 => ?_)
  · by_cases h0 : E = "java/lang/IllegalArgumentException"
    · subst h0
      refine Or.inr ⟨[], ⟨0, 9, 12, 13⟩, [], rfl, (fun z hz => nomatch hz), by decide, by decide, cl_L_13, by decide, fun q => ?_⟩
      rw [if_pos rfl]
      refine r_sta_n (pc := 12) C 3 [] dL_total_12 rfl (by decide) rfl ?_
      refine r_iconst (pc := 13) C dL_total_13 ki_1 ?_
      exact r_iret (pc := 14) C dL_total_14
    · rw [if_neg h0]; exact Or.inl rfl
  · refine r_i2l (pc := 7) C dL_total_7 ?_
    refine r_last (pc := 8) C dL_total_8 ?_
    refine r_goto (pc := 9) C (tgt := 15) dL_total_9 rfl ?_
    refine r_iconst (pc := 15) C dL_total_15 ki_0 ?_
    exact r_iret (pc := 16) C dL_total_16
noncomputable def p_L_forecast (p1 : Nat) (p2 : Int32) (p3 : Int32) (p4 : Nat) : zP Int32 := (z_ct (z_cv 8 p1 (p_X8_forecast p1 p2 p3)) (fun E => if E = "java/lang/IllegalArgumentException" then z_pu 1 else z_fl) (fun r1 => (z_bd (z_sJ 15 p4 0 ((r1 : Int32).toInt64)) (fun _ => (z_pu 0)))))
theorem mh_L_forecast : z_MtH yL_forecast cL_forecast 5 (some .int) [(0, 10, 13, 13)] 4 := ⟨XT_t 1058 (by decide +kernel) rfl, ini_L, by decide, by decide, by decide +kernel⟩
set_option maxHeartbeats 4000000 in
set_option maxRecDepth 100000 in
theorem s_L_forecast (p1 : Nat) (p2 : Int32) (p3 : Int32) (p4 : Nat) : z_SoundH yL_forecast cL_forecast 5 (some .int) [(0, 10, 13, 13)] 9 187 (fun D b => [.ref (b + p1), .int p2, .int p3, .ref (b + p4)]) z_ivI (p_L_forecast p1 p2 p3 p4) := by
  refine z_ofSimH rfl (by intro D b; exact Nat.le_of_ble_eq_true rfl) (fun X C hTb => ?_)
  unfold p_L_forecast
  refine r_sub [(0, .ref (x_b X + p1)), (1, .int p2), (2, .int p3), (3, .ref (x_b X + p4))] rfl ?_
  refine r_aload_n (pc := 0) C dL_forecast_0 rfl rfl ?_
  refine r_iconst (pc := 1) C dL_forecast_1 ki_0 ?_
  refine r_aload_n (pc := 2) C dL_forecast_2 rfl rfl ?_
  refine r_iload_n (pc := 3) C dL_forecast_3 rfl rfl ?_
  refine r_iload_n (pc := 4) C dL_forecast_4 rfl rfl ?_
  refine r_catch (pc := 5) C hTb [.int p2, .int p3] [.int 0, .ref (x_b X + p4)] (s_X8_forecast p1 p2 p3) mt_X8_forecast zc_8 dL_forecast_5 ml_L_70 im_X8_forecast se_X8_forecast rfl rfl rfl (Nat.le_of_ble_eq_true rfl) ⟨Nat.le_of_ble_eq_true rfl, Nat.le_of_ble_eq_true rfl⟩ (fun E => ?_) (fun r1 => ?_)
  · by_cases h0 : E = "java/lang/IllegalArgumentException"
    · subst h0
      refine Or.inr ⟨[], ⟨0, 10, 13, 13⟩, [], rfl, (fun z hz => nomatch hz), by decide, by decide, cl_L_13, by decide, fun q => ?_⟩
      rw [if_pos rfl]
      refine r_sta (pc := 13) C [] dL_forecast_13 (by decide) rfl ?_
      refine r_iconst (pc := 15) C dL_forecast_15 ki_1 ?_
      exact r_iret (pc := 16) C dL_forecast_16
    · rw [if_neg h0]; exact Or.inl rfl
  · refine r_i2l (pc := 8) C dL_forecast_8 ?_
    refine r_last (pc := 9) C dL_forecast_9 ?_
    refine r_goto (pc := 10) C (tgt := 17) dL_forecast_10 rfl ?_
    refine r_iconst (pc := 17) C dL_forecast_17 ki_0 ?_
    exact r_iret (pc := 18) C dL_forecast_18
noncomputable def p_L_runsOut (p1 : Nat) (p2 : Int32) (p3 : Int32) (p4 : Nat) : zP Int32 := (z_ct (z_cv 8 p1 (p_X8_runsOut p1 p2 p3)) (fun E => if E = "java/lang/IndexOutOfBoundsException" then z_pu 1 else z_fl) (fun r1 => (z_bd (z_sJ 15 p4 0 ((r1 : Int32).toInt64)) (fun _ => (z_pu 0)))))
theorem mh_L_runsOut : z_MtH yL_runsOut cL_runsOut 5 (some .int) [(0, 10, 13, 21)] 4 := ⟨XT_t 1141 (by decide +kernel) rfl, ini_L, by decide, by decide, by decide +kernel⟩
set_option maxHeartbeats 4000000 in
set_option maxRecDepth 100000 in
theorem s_L_runsOut (p1 : Nat) (p2 : Int32) (p3 : Int32) (p4 : Nat) : z_SoundH yL_runsOut cL_runsOut 5 (some .int) [(0, 10, 13, 21)] 8 187 (fun D b => [.ref (b + p1), .int p2, .int p3, .ref (b + p4)]) z_ivI (p_L_runsOut p1 p2 p3 p4) := by
  refine z_ofSimH rfl (by intro D b; exact Nat.le_of_ble_eq_true rfl) (fun X C hTb => ?_)
  unfold p_L_runsOut
  refine r_sub [(0, .ref (x_b X + p1)), (1, .int p2), (2, .int p3), (3, .ref (x_b X + p4))] rfl ?_
  refine r_aload_n (pc := 0) C dL_runsOut_0 rfl rfl ?_
  refine r_iconst (pc := 1) C dL_runsOut_1 ki_0 ?_
  refine r_aload_n (pc := 2) C dL_runsOut_2 rfl rfl ?_
  refine r_iload_n (pc := 3) C dL_runsOut_3 rfl rfl ?_
  refine r_iload_n (pc := 4) C dL_runsOut_4 rfl rfl ?_
  refine r_catch (pc := 5) C hTb [.int p2, .int p3] [.int 0, .ref (x_b X + p4)] (s_X8_runsOut p1 p2 p3) mt_X8_runsOut zc_8 dL_runsOut_5 ml_L_73 im_X8_runsOut se_X8_runsOut rfl rfl rfl (Nat.le_of_ble_eq_true rfl) ⟨Nat.le_of_ble_eq_true rfl, Nat.le_of_ble_eq_true rfl⟩ (fun E => ?_) (fun r1 => ?_)
  · by_cases h0 : E = "java/lang/IndexOutOfBoundsException"
    · subst h0
      refine Or.inr ⟨[], ⟨0, 10, 13, 21⟩, [], rfl, (fun z hz => nomatch hz), by decide, by decide, cl_L_21, by decide, fun q => ?_⟩
      rw [if_pos rfl]
      refine r_sta (pc := 13) C [] dL_runsOut_13 (by decide) rfl ?_
      refine r_iconst (pc := 15) C dL_runsOut_15 ki_1 ?_
      exact r_iret (pc := 16) C dL_runsOut_16
    · rw [if_neg h0]; exact Or.inl rfl
  · refine r_i2l (pc := 8) C dL_runsOut_8 ?_
    refine r_last (pc := 9) C dL_runsOut_9 ?_
    refine r_goto (pc := 10) C (tgt := 17) dL_runsOut_10 rfl ?_
    refine r_iconst (pc := 17) C dL_runsOut_17 ki_0 ?_
    exact r_iret (pc := 18) C dL_runsOut_18
noncomputable def p_L_pass (p1 : Nat) (p2 : Int32) (p3 : Nat) : zP Int32 := (z_ct (z_cv 8 p1 (p_X8_pass p1 p2)) (fun E => if E = "java/lang/IllegalArgumentException" then z_pu 1 else if E = "java/lang/IllegalStateException" then z_pu 2 else z_fl) (fun r1 => (z_bd (z_sJ 15 p3 0 ((r1 : Int32).toInt64)) (fun _ => (z_pu 0)))))
theorem mh_L_pass : z_MtH yL_pass cL_pass 4 (some .int) [(0, 9, 12, 13), (0, 9, 15, 62)] 3 := ⟨XT_t 1156 (by decide +kernel) rfl, ini_L, by decide, by decide, by decide +kernel⟩
set_option maxHeartbeats 4000000 in
set_option maxRecDepth 100000 in
theorem s_L_pass (p1 : Nat) (p2 : Int32) (p3 : Nat) : z_SoundH yL_pass cL_pass 4 (some .int) [(0, 9, 12, 13), (0, 9, 15, 62)] 8 186 (fun D b => [.ref (b + p1), .int p2, .ref (b + p3)]) z_ivI (p_L_pass p1 p2 p3) := by
  refine z_ofSimH rfl (by intro D b; exact Nat.le_of_ble_eq_true rfl) (fun X C hTb => ?_)
  unfold p_L_pass
  refine r_sub [(0, .ref (x_b X + p1)), (1, .int p2), (2, .ref (x_b X + p3))] rfl ?_
  refine r_aload_n (pc := 0) C dL_pass_0 rfl rfl ?_
  refine r_iconst (pc := 1) C dL_pass_1 ki_0 ?_
  refine r_aload_n (pc := 2) C dL_pass_2 rfl rfl ?_
  refine r_iload_n (pc := 3) C dL_pass_3 rfl rfl ?_
  refine r_catch (pc := 4) C hTb [.int p2] [.int 0, .ref (x_b X + p3)] (s_X8_pass p1 p2) mt_X8_pass zc_8 dL_pass_4 ml_L_76 im_X8_pass se_X8_pass rfl rfl rfl (Nat.le_of_ble_eq_true rfl) ⟨Nat.le_of_ble_eq_true rfl, Nat.le_of_ble_eq_true rfl⟩ (fun E => ?_) (fun r1 => ?_)
  · by_cases h0 : E = "java/lang/IllegalArgumentException"
    · subst h0
      refine Or.inr ⟨[], ⟨0, 9, 12, 13⟩, [⟨0, 9, 15, 62⟩], rfl, (fun z hz => nomatch hz), by decide, by decide, cl_L_13, by decide, fun q => ?_⟩
      rw [if_pos rfl]
      refine r_sta_n (pc := 12) C 3 [] dL_pass_12 rfl (by decide) rfl ?_
      refine r_iconst (pc := 13) C dL_pass_13 ki_1 ?_
      exact r_iret (pc := 14) C dL_pass_14
    · skip
      by_cases h1 : E = "java/lang/IllegalStateException"
      · subst h1
        refine Or.inr ⟨[⟨0, 9, 12, 13⟩], ⟨0, 9, 15, 62⟩, [], rfl, (List.forall_mem_cons.mpr ⟨⟨by decide, _, cl_L_13, by decide, by decide⟩, fun z hz => nomatch hz⟩), by decide, by decide, cl_L_62, by decide, fun q => ?_⟩
        rw [if_neg (by decide)]; rw [if_pos rfl]
        refine r_sta_n (pc := 15) C 3 [] dL_pass_15 rfl (by decide) rfl ?_
        refine r_iconst (pc := 16) C dL_pass_16 ki_2 ?_
        exact r_iret (pc := 17) C dL_pass_17
      · rw [if_neg h0, if_neg h1]; exact Or.inl rfl
  · refine r_i2l (pc := 7) C dL_pass_7 ?_
    refine r_last (pc := 8) C dL_pass_8 ?_
    refine r_goto (pc := 9) C (tgt := 18) dL_pass_9 rfl ?_
    refine r_iconst (pc := 18) C dL_pass_18 ki_0 ?_
    exact r_iret (pc := 19) C dL_pass_19
noncomputable def p_L_rent (p1 : Nat) (p2 : Int32) (p3 : Int32) (p4 : Nat) : zP Int32 := (z_ct (z_cv 8 p1 (p_X8_rent p1 p2 p3)) (fun E => if E = "java/lang/IndexOutOfBoundsException" then z_pu 1 else if E = "java/lang/IllegalStateException" then z_pu 2 else z_fl) (fun r1 => (z_bd (z_sJ 15 p4 0 ((r1 : Int32).toInt64)) (fun _ => (z_pu 0)))))
theorem mh_L_rent : z_MtH yL_rent cL_rent 5 (some .int) [(0, 10, 13, 21), (0, 10, 17, 62)] 4 := ⟨XT_t 1169 (by decide +kernel) rfl, ini_L, by decide, by decide, by decide +kernel⟩
set_option maxHeartbeats 4000000 in
set_option maxRecDepth 100000 in
theorem s_L_rent (p1 : Nat) (p2 : Int32) (p3 : Int32) (p4 : Nat) : z_SoundH yL_rent cL_rent 5 (some .int) [(0, 10, 13, 21), (0, 10, 17, 62)] 8 140 (fun D b => [.ref (b + p1), .int p2, .int p3, .ref (b + p4)]) z_ivI (p_L_rent p1 p2 p3 p4) := by
  refine z_ofSimH rfl (by intro D b; exact Nat.le_of_ble_eq_true rfl) (fun X C hTb => ?_)
  unfold p_L_rent
  refine r_sub [(0, .ref (x_b X + p1)), (1, .int p2), (2, .int p3), (3, .ref (x_b X + p4))] rfl ?_
  refine r_aload_n (pc := 0) C dL_rent_0 rfl rfl ?_
  refine r_iconst (pc := 1) C dL_rent_1 ki_0 ?_
  refine r_aload_n (pc := 2) C dL_rent_2 rfl rfl ?_
  refine r_iload_n (pc := 3) C dL_rent_3 rfl rfl ?_
  refine r_iload_n (pc := 4) C dL_rent_4 rfl rfl ?_
  refine r_catch (pc := 5) C hTb [.int p2, .int p3] [.int 0, .ref (x_b X + p4)] (s_X8_rent p1 p2 p3) mt_X8_rent zc_8 dL_rent_5 ml_L_79 im_X8_rent se_X8_rent rfl rfl rfl (Nat.le_of_ble_eq_true rfl) ⟨Nat.le_of_ble_eq_true rfl, Nat.le_of_ble_eq_true rfl⟩ (fun E => ?_) (fun r1 => ?_)
  · by_cases h0 : E = "java/lang/IndexOutOfBoundsException"
    · subst h0
      refine Or.inr ⟨[], ⟨0, 10, 13, 21⟩, [⟨0, 10, 17, 62⟩], rfl, (fun z hz => nomatch hz), by decide, by decide, cl_L_21, by decide, fun q => ?_⟩
      rw [if_pos rfl]
      refine r_sta (pc := 13) C [] dL_rent_13 (by decide) rfl ?_
      refine r_iconst (pc := 15) C dL_rent_15 ki_1 ?_
      exact r_iret (pc := 16) C dL_rent_16
    · skip
      by_cases h1 : E = "java/lang/IllegalStateException"
      · subst h1
        refine Or.inr ⟨[⟨0, 10, 13, 21⟩], ⟨0, 10, 17, 62⟩, [], rfl, (List.forall_mem_cons.mpr ⟨⟨by decide, _, cl_L_21, by decide, by decide⟩, fun z hz => nomatch hz⟩), by decide, by decide, cl_L_62, by decide, fun q => ?_⟩
        rw [if_neg (by decide)]; rw [if_pos rfl]
        refine r_sta (pc := 17) C [] dL_rent_17 (by decide) rfl ?_
        refine r_iconst (pc := 19) C dL_rent_19 ki_2 ?_
        exact r_iret (pc := 20) C dL_rent_20
      · rw [if_neg h0, if_neg h1]; exact Or.inl rfl
  · refine r_i2l (pc := 8) C dL_rent_8 ?_
    refine r_last (pc := 9) C dL_rent_9 ?_
    refine r_goto (pc := 10) C (tgt := 21) dL_rent_10 rfl ?_
    refine r_iconst (pc := 21) C dL_rent_21 ki_0 ?_
    exact r_iret (pc := 22) C dL_rent_22
noncomputable def p_L_dispatch (p1 : Nat) (p2 : Int32) (p3 : Int32) (p4 : Int32) (p5 : Nat) : zP Int32 := (z_ct (z_cv 8 p1 (p_X8_dispatch p1 p2 p3 p4)) (fun E => if E = "java/lang/IndexOutOfBoundsException" then z_pu 1 else if E = "java/lang/IllegalArgumentException" then z_pu 2 else if E = "java/lang/IllegalStateException" then z_pu 3 else z_fl) (fun r1 => (z_bd (z_sJ 15 p5 0 ((r1 : Int32).toInt64)) (fun _ => (z_pu 0)))))
theorem mh_L_dispatch : z_MtH yL_dispatch cL_dispatch 6 (some .int) [(0, 12, 15, 21), (0, 12, 19, 13), (0, 12, 23, 62)] 5 := ⟨XT_t 1179 (by decide +kernel) rfl, ini_L, by decide, by decide, by decide +kernel⟩
set_option maxHeartbeats 4000000 in
set_option maxRecDepth 100000 in
theorem s_L_dispatch (p1 : Nat) (p2 : Int32) (p3 : Int32) (p4 : Int32) (p5 : Nat) : z_SoundH yL_dispatch cL_dispatch 6 (some .int) [(0, 12, 15, 21), (0, 12, 19, 13), (0, 12, 23, 62)] 8 133 (fun D b => [.ref (b + p1), .int p2, .int p3, .int p4, .ref (b + p5)]) z_ivI (p_L_dispatch p1 p2 p3 p4 p5) := by
  refine z_ofSimH rfl (by intro D b; exact Nat.le_of_ble_eq_true rfl) (fun X C hTb => ?_)
  unfold p_L_dispatch
  refine r_sub [(0, .ref (x_b X + p1)), (1, .int p2), (2, .int p3), (3, .int p4), (4, .ref (x_b X + p5))] rfl ?_
  refine r_aload (pc := 0) C dL_dispatch_0 rfl ?_
  refine r_iconst (pc := 2) C dL_dispatch_2 ki_0 ?_
  refine r_aload_n (pc := 3) C dL_dispatch_3 rfl rfl ?_
  refine r_iload_n (pc := 4) C dL_dispatch_4 rfl rfl ?_
  refine r_iload_n (pc := 5) C dL_dispatch_5 rfl rfl ?_
  refine r_iload_n (pc := 6) C dL_dispatch_6 rfl rfl ?_
  refine r_catch (pc := 7) C hTb [.int p2, .int p3, .int p4] [.int 0, .ref (x_b X + p5)] (s_X8_dispatch p1 p2 p3 p4) mt_X8_dispatch zc_8 dL_dispatch_7 ml_L_82 im_X8_dispatch se_X8_dispatch rfl rfl rfl (Nat.le_of_ble_eq_true rfl) ⟨Nat.le_of_ble_eq_true rfl, Nat.le_of_ble_eq_true rfl⟩ (fun E => ?_) (fun r1 => ?_)
  · by_cases h0 : E = "java/lang/IndexOutOfBoundsException"
    · subst h0
      refine Or.inr ⟨[], ⟨0, 12, 15, 21⟩, [⟨0, 12, 19, 13⟩, ⟨0, 12, 23, 62⟩], rfl, (fun z hz => nomatch hz), by decide, by decide, cl_L_21, by decide, fun q => ?_⟩
      rw [if_pos rfl]
      refine r_sta (pc := 15) C [] dL_dispatch_15 (by decide) rfl ?_
      refine r_iconst (pc := 17) C dL_dispatch_17 ki_1 ?_
      exact r_iret (pc := 18) C dL_dispatch_18
    · skip
      by_cases h1 : E = "java/lang/IllegalArgumentException"
      · subst h1
        refine Or.inr ⟨[⟨0, 12, 15, 21⟩], ⟨0, 12, 19, 13⟩, [⟨0, 12, 23, 62⟩], rfl, (List.forall_mem_cons.mpr ⟨⟨by decide, _, cl_L_21, by decide, by decide⟩, fun z hz => nomatch hz⟩), by decide, by decide, cl_L_13, by decide, fun q => ?_⟩
        rw [if_neg (by decide)]; rw [if_pos rfl]
        refine r_sta (pc := 19) C [] dL_dispatch_19 (by decide) rfl ?_
        refine r_iconst (pc := 21) C dL_dispatch_21 ki_2 ?_
        exact r_iret (pc := 22) C dL_dispatch_22
      · skip
        by_cases h2 : E = "java/lang/IllegalStateException"
        · subst h2
          refine Or.inr ⟨[⟨0, 12, 15, 21⟩, ⟨0, 12, 19, 13⟩], ⟨0, 12, 23, 62⟩, [], rfl, (List.forall_mem_cons.mpr ⟨⟨by decide, _, cl_L_21, by decide, by decide⟩, List.forall_mem_cons.mpr ⟨⟨by decide, _, cl_L_13, by decide, by decide⟩, fun z hz => nomatch hz⟩⟩), by decide, by decide, cl_L_62, by decide, fun q => ?_⟩
          rw [if_neg (by decide)];  rw [if_neg (by decide)]; rw [if_pos rfl]
          refine r_sta (pc := 23) C [] dL_dispatch_23 (by decide) rfl ?_
          refine r_iconst (pc := 25) C dL_dispatch_25 ki_3 ?_
          exact r_iret (pc := 26) C dL_dispatch_26
        · rw [if_neg h0, if_neg h1, if_neg h2]; exact Or.inl rfl
  · refine r_i2l (pc := 10) C dL_dispatch_10 ?_
    refine r_last (pc := 11) C dL_dispatch_11 ?_
    refine r_goto (pc := 12) C (tgt := 27) dL_dispatch_12 rfl ?_
    refine r_iconst (pc := 27) C dL_dispatch_27 ki_0 ?_
    exact r_iret (pc := 28) C dL_dispatch_28
noncomputable def p_L_cancel (p1 : Nat) (p2 : Int32) (p3 : Nat) : zP Int32 := (z_ct (z_cv 8 p1 (p_X8_cancel p1 p2)) (fun E => if E = "java/lang/IndexOutOfBoundsException" then z_pu 1 else z_fl) (fun r1 => (z_bd (z_sJ 15 p3 0 ((r1 : Int32).toInt64)) (fun _ => (z_pu 0)))))
theorem mh_L_cancel : z_MtH yL_cancel cL_cancel 4 (some .int) [(0, 9, 12, 21)] 3 := ⟨XT_t 1192 (by decide +kernel) rfl, ini_L, by decide, by decide, by decide +kernel⟩
set_option maxHeartbeats 4000000 in
set_option maxRecDepth 100000 in
theorem s_L_cancel (p1 : Nat) (p2 : Int32) (p3 : Nat) : z_SoundH yL_cancel cL_cancel 4 (some .int) [(0, 9, 12, 21)] 8 131 (fun D b => [.ref (b + p1), .int p2, .ref (b + p3)]) z_ivI (p_L_cancel p1 p2 p3) := by
  refine z_ofSimH rfl (by intro D b; exact Nat.le_of_ble_eq_true rfl) (fun X C hTb => ?_)
  unfold p_L_cancel
  refine r_sub [(0, .ref (x_b X + p1)), (1, .int p2), (2, .ref (x_b X + p3))] rfl ?_
  refine r_aload_n (pc := 0) C dL_cancel_0 rfl rfl ?_
  refine r_iconst (pc := 1) C dL_cancel_1 ki_0 ?_
  refine r_aload_n (pc := 2) C dL_cancel_2 rfl rfl ?_
  refine r_iload_n (pc := 3) C dL_cancel_3 rfl rfl ?_
  refine r_catch (pc := 4) C hTb [.int p2] [.int 0, .ref (x_b X + p3)] (s_X8_cancel p1 p2) mt_X8_cancel zc_8 dL_cancel_4 ml_L_86 im_X8_cancel se_X8_cancel rfl rfl rfl (Nat.le_of_ble_eq_true rfl) ⟨Nat.le_of_ble_eq_true rfl, Nat.le_of_ble_eq_true rfl⟩ (fun E => ?_) (fun r1 => ?_)
  · by_cases h0 : E = "java/lang/IndexOutOfBoundsException"
    · subst h0
      refine Or.inr ⟨[], ⟨0, 9, 12, 21⟩, [], rfl, (fun z hz => nomatch hz), by decide, by decide, cl_L_21, by decide, fun q => ?_⟩
      rw [if_pos rfl]
      refine r_sta_n (pc := 12) C 3 [] dL_cancel_12 rfl (by decide) rfl ?_
      refine r_iconst (pc := 13) C dL_cancel_13 ki_1 ?_
      exact r_iret (pc := 14) C dL_cancel_14
    · rw [if_neg h0]; exact Or.inl rfl
  · refine r_i2l (pc := 7) C dL_cancel_7 ?_
    refine r_last (pc := 8) C dL_cancel_8 ?_
    refine r_goto (pc := 9) C (tgt := 15) dL_cancel_9 rfl ?_
    refine r_iconst (pc := 15) C dL_cancel_15 ki_0 ?_
    exact r_iret (pc := 16) C dL_cancel_16
noncomputable def p_L_breakDock (p1 : Nat) (p2 : Int32) (p3 : Nat) : zP Int32 := (z_ct (z_cv 8 p1 (p_X8_breakDock p1 p2)) (fun E => if E = "java/lang/IndexOutOfBoundsException" then z_pu 1 else if E = "java/lang/IllegalStateException" then z_pu 2 else z_fl) (fun r1 => (z_bd (z_sJ 15 p3 0 ((r1 : Int32).toInt64)) (fun _ => (z_pu 0)))))
theorem mh_L_breakDock : z_MtH yL_breakDock cL_breakDock 4 (some .int) [(0, 9, 12, 21), (0, 9, 15, 62)] 3 := ⟨XT_t 1199 (by decide +kernel) rfl, ini_L, by decide, by decide, by decide +kernel⟩
set_option maxHeartbeats 4000000 in
set_option maxRecDepth 100000 in
theorem s_L_breakDock (p1 : Nat) (p2 : Int32) (p3 : Nat) : z_SoundH yL_breakDock cL_breakDock 4 (some .int) [(0, 9, 12, 21), (0, 9, 15, 62)] 8 130 (fun D b => [.ref (b + p1), .int p2, .ref (b + p3)]) z_ivI (p_L_breakDock p1 p2 p3) := by
  refine z_ofSimH rfl (by intro D b; exact Nat.le_of_ble_eq_true rfl) (fun X C hTb => ?_)
  unfold p_L_breakDock
  refine r_sub [(0, .ref (x_b X + p1)), (1, .int p2), (2, .ref (x_b X + p3))] rfl ?_
  refine r_aload_n (pc := 0) C dL_breakDock_0 rfl rfl ?_
  refine r_iconst (pc := 1) C dL_breakDock_1 ki_0 ?_
  refine r_aload_n (pc := 2) C dL_breakDock_2 rfl rfl ?_
  refine r_iload_n (pc := 3) C dL_breakDock_3 rfl rfl ?_
  refine r_catch (pc := 4) C hTb [.int p2] [.int 0, .ref (x_b X + p3)] (s_X8_breakDock p1 p2) mt_X8_breakDock zc_8 dL_breakDock_4 ml_L_89 im_X8_breakDock se_X8_breakDock rfl rfl rfl (Nat.le_of_ble_eq_true rfl) ⟨Nat.le_of_ble_eq_true rfl, Nat.le_of_ble_eq_true rfl⟩ (fun E => ?_) (fun r1 => ?_)
  · by_cases h0 : E = "java/lang/IndexOutOfBoundsException"
    · subst h0
      refine Or.inr ⟨[], ⟨0, 9, 12, 21⟩, [⟨0, 9, 15, 62⟩], rfl, (fun z hz => nomatch hz), by decide, by decide, cl_L_21, by decide, fun q => ?_⟩
      rw [if_pos rfl]
      refine r_sta_n (pc := 12) C 3 [] dL_breakDock_12 rfl (by decide) rfl ?_
      refine r_iconst (pc := 13) C dL_breakDock_13 ki_1 ?_
      exact r_iret (pc := 14) C dL_breakDock_14
    · skip
      by_cases h1 : E = "java/lang/IllegalStateException"
      · subst h1
        refine Or.inr ⟨[⟨0, 9, 12, 21⟩], ⟨0, 9, 15, 62⟩, [], rfl, (List.forall_mem_cons.mpr ⟨⟨by decide, _, cl_L_21, by decide, by decide⟩, fun z hz => nomatch hz⟩), by decide, by decide, cl_L_62, by decide, fun q => ?_⟩
        rw [if_neg (by decide)]; rw [if_pos rfl]
        refine r_sta_n (pc := 15) C 3 [] dL_breakDock_15 rfl (by decide) rfl ?_
        refine r_iconst (pc := 16) C dL_breakDock_16 ki_2 ?_
        exact r_iret (pc := 17) C dL_breakDock_17
      · rw [if_neg h0, if_neg h1]; exact Or.inl rfl
  · refine r_i2l (pc := 7) C dL_breakDock_7 ?_
    refine r_last (pc := 8) C dL_breakDock_8 ?_
    refine r_goto (pc := 9) C (tgt := 18) dL_breakDock_9 rfl ?_
    refine r_iconst (pc := 18) C dL_breakDock_18 ki_0 ?_
    exact r_iret (pc := 19) C dL_breakDock_19
noncomputable def p_L_repairDock (p1 : Nat) (p2 : Int32) (p3 : Nat) : zP Int32 := (z_ct (z_cv 8 p1 (p_X8_repairDock p1 p2)) (fun E => if E = "java/lang/IndexOutOfBoundsException" then z_pu 1 else if E = "java/lang/IllegalStateException" then z_pu 2 else z_fl) (fun r1 => (z_bd (z_sJ 15 p3 0 ((r1 : Int32).toInt64)) (fun _ => (z_pu 0)))))
theorem mh_L_repairDock : z_MtH yL_repairDock cL_repairDock 4 (some .int) [(0, 9, 12, 21), (0, 9, 15, 62)] 3 := ⟨XT_t 1207 (by decide +kernel) rfl, ini_L, by decide, by decide, by decide +kernel⟩
set_option maxHeartbeats 4000000 in
set_option maxRecDepth 100000 in
theorem s_L_repairDock (p1 : Nat) (p2 : Int32) (p3 : Nat) : z_SoundH yL_repairDock cL_repairDock 4 (some .int) [(0, 9, 12, 21), (0, 9, 15, 62)] 8 130 (fun D b => [.ref (b + p1), .int p2, .ref (b + p3)]) z_ivI (p_L_repairDock p1 p2 p3) := by
  refine z_ofSimH rfl (by intro D b; exact Nat.le_of_ble_eq_true rfl) (fun X C hTb => ?_)
  unfold p_L_repairDock
  refine r_sub [(0, .ref (x_b X + p1)), (1, .int p2), (2, .ref (x_b X + p3))] rfl ?_
  refine r_aload_n (pc := 0) C dL_repairDock_0 rfl rfl ?_
  refine r_iconst (pc := 1) C dL_repairDock_1 ki_0 ?_
  refine r_aload_n (pc := 2) C dL_repairDock_2 rfl rfl ?_
  refine r_iload_n (pc := 3) C dL_repairDock_3 rfl rfl ?_
  refine r_catch (pc := 4) C hTb [.int p2] [.int 0, .ref (x_b X + p3)] (s_X8_repairDock p1 p2) mt_X8_repairDock zc_8 dL_repairDock_4 ml_L_92 im_X8_repairDock se_X8_repairDock rfl rfl rfl (Nat.le_of_ble_eq_true rfl) ⟨Nat.le_of_ble_eq_true rfl, Nat.le_of_ble_eq_true rfl⟩ (fun E => ?_) (fun r1 => ?_)
  · by_cases h0 : E = "java/lang/IndexOutOfBoundsException"
    · subst h0
      refine Or.inr ⟨[], ⟨0, 9, 12, 21⟩, [⟨0, 9, 15, 62⟩], rfl, (fun z hz => nomatch hz), by decide, by decide, cl_L_21, by decide, fun q => ?_⟩
      rw [if_pos rfl]
      refine r_sta_n (pc := 12) C 3 [] dL_repairDock_12 rfl (by decide) rfl ?_
      refine r_iconst (pc := 13) C dL_repairDock_13 ki_1 ?_
      exact r_iret (pc := 14) C dL_repairDock_14
    · skip
      by_cases h1 : E = "java/lang/IllegalStateException"
      · subst h1
        refine Or.inr ⟨[⟨0, 9, 12, 21⟩], ⟨0, 9, 15, 62⟩, [], rfl, (List.forall_mem_cons.mpr ⟨⟨by decide, _, cl_L_21, by decide, by decide⟩, fun z hz => nomatch hz⟩), by decide, by decide, cl_L_62, by decide, fun q => ?_⟩
        rw [if_neg (by decide)]; rw [if_pos rfl]
        refine r_sta_n (pc := 15) C 3 [] dL_repairDock_15 rfl (by decide) rfl ?_
        refine r_iconst (pc := 16) C dL_repairDock_16 ki_2 ?_
        exact r_iret (pc := 17) C dL_repairDock_17
      · rw [if_neg h0, if_neg h1]; exact Or.inl rfl
  · refine r_i2l (pc := 7) C dL_repairDock_7 ?_
    refine r_last (pc := 8) C dL_repairDock_8 ?_
    refine r_goto (pc := 9) C (tgt := 18) dL_repairDock_9 rfl ?_
    refine r_iconst (pc := 18) C dL_repairDock_18 ki_0 ?_
    exact r_iret (pc := 19) C dL_repairDock_19
noncomputable def p_L_addBikes (p1 : Nat) (p2 : Int32) (p3 : Int32) (p4 : Nat) : zP Int32 := (z_ct (z_cv 8 p1 (p_X8_addBikes p1 p2 p3)) (fun E => if E = "java/lang/IndexOutOfBoundsException" then z_pu 1 else if E = "java/lang/IllegalArgumentException" then z_pu 2 else if E = "java/lang/IllegalStateException" then z_pu 3 else z_fl) (fun r1 => (z_bd (z_sJ 15 p4 0 ((r1 : Int32).toInt64)) (fun _ => (z_pu 0)))))
theorem mh_L_addBikes : z_MtH yL_addBikes cL_addBikes 5 (some .int) [(0, 10, 13, 21), (0, 10, 17, 13), (0, 10, 21, 62)] 4 := ⟨XT_t 1215 (by decide +kernel) rfl, ini_L, by decide, by decide, by decide +kernel⟩
set_option maxHeartbeats 4000000 in
set_option maxRecDepth 100000 in
theorem s_L_addBikes (p1 : Nat) (p2 : Int32) (p3 : Int32) (p4 : Nat) : z_SoundH yL_addBikes cL_addBikes 5 (some .int) [(0, 10, 13, 21), (0, 10, 17, 13), (0, 10, 21, 62)] 8 131 (fun D b => [.ref (b + p1), .int p2, .int p3, .ref (b + p4)]) z_ivI (p_L_addBikes p1 p2 p3 p4) := by
  refine z_ofSimH rfl (by intro D b; exact Nat.le_of_ble_eq_true rfl) (fun X C hTb => ?_)
  unfold p_L_addBikes
  refine r_sub [(0, .ref (x_b X + p1)), (1, .int p2), (2, .int p3), (3, .ref (x_b X + p4))] rfl ?_
  refine r_aload_n (pc := 0) C dL_addBikes_0 rfl rfl ?_
  refine r_iconst (pc := 1) C dL_addBikes_1 ki_0 ?_
  refine r_aload_n (pc := 2) C dL_addBikes_2 rfl rfl ?_
  refine r_iload_n (pc := 3) C dL_addBikes_3 rfl rfl ?_
  refine r_iload_n (pc := 4) C dL_addBikes_4 rfl rfl ?_
  refine r_catch (pc := 5) C hTb [.int p2, .int p3] [.int 0, .ref (x_b X + p4)] (s_X8_addBikes p1 p2 p3) mt_X8_addBikes zc_8 dL_addBikes_5 ml_L_95 im_X8_addBikes se_X8_addBikes rfl rfl rfl (Nat.le_of_ble_eq_true rfl) ⟨Nat.le_of_ble_eq_true rfl, Nat.le_of_ble_eq_true rfl⟩ (fun E => ?_) (fun r1 => ?_)
  · by_cases h0 : E = "java/lang/IndexOutOfBoundsException"
    · subst h0
      refine Or.inr ⟨[], ⟨0, 10, 13, 21⟩, [⟨0, 10, 17, 13⟩, ⟨0, 10, 21, 62⟩], rfl, (fun z hz => nomatch hz), by decide, by decide, cl_L_21, by decide, fun q => ?_⟩
      rw [if_pos rfl]
      refine r_sta (pc := 13) C [] dL_addBikes_13 (by decide) rfl ?_
      refine r_iconst (pc := 15) C dL_addBikes_15 ki_1 ?_
      exact r_iret (pc := 16) C dL_addBikes_16
    · skip
      by_cases h1 : E = "java/lang/IllegalArgumentException"
      · subst h1
        refine Or.inr ⟨[⟨0, 10, 13, 21⟩], ⟨0, 10, 17, 13⟩, [⟨0, 10, 21, 62⟩], rfl, (List.forall_mem_cons.mpr ⟨⟨by decide, _, cl_L_21, by decide, by decide⟩, fun z hz => nomatch hz⟩), by decide, by decide, cl_L_13, by decide, fun q => ?_⟩
        rw [if_neg (by decide)]; rw [if_pos rfl]
        refine r_sta (pc := 17) C [] dL_addBikes_17 (by decide) rfl ?_
        refine r_iconst (pc := 19) C dL_addBikes_19 ki_2 ?_
        exact r_iret (pc := 20) C dL_addBikes_20
      · skip
        by_cases h2 : E = "java/lang/IllegalStateException"
        · subst h2
          refine Or.inr ⟨[⟨0, 10, 13, 21⟩, ⟨0, 10, 17, 13⟩], ⟨0, 10, 21, 62⟩, [], rfl, (List.forall_mem_cons.mpr ⟨⟨by decide, _, cl_L_21, by decide, by decide⟩, List.forall_mem_cons.mpr ⟨⟨by decide, _, cl_L_13, by decide, by decide⟩, fun z hz => nomatch hz⟩⟩), by decide, by decide, cl_L_62, by decide, fun q => ?_⟩
          rw [if_neg (by decide)];  rw [if_neg (by decide)]; rw [if_pos rfl]
          refine r_sta (pc := 21) C [] dL_addBikes_21 (by decide) rfl ?_
          refine r_iconst (pc := 23) C dL_addBikes_23 ki_3 ?_
          exact r_iret (pc := 24) C dL_addBikes_24
        · rw [if_neg h0, if_neg h1, if_neg h2]; exact Or.inl rfl
  · refine r_i2l (pc := 8) C dL_addBikes_8 ?_
    refine r_last (pc := 9) C dL_addBikes_9 ?_
    refine r_goto (pc := 10) C (tgt := 25) dL_addBikes_10 rfl ?_
    refine r_iconst (pc := 25) C dL_addBikes_25 ki_0 ?_
    exact r_iret (pc := 26) C dL_addBikes_26
noncomputable def p_L_removeBikes (p1 : Nat) (p2 : Int32) (p3 : Int32) (p4 : Nat) : zP Int32 := (z_ct (z_cv 8 p1 (p_X8_removeBikes p1 p2 p3)) (fun E => if E = "java/lang/IndexOutOfBoundsException" then z_pu 1 else if E = "java/lang/IllegalArgumentException" then z_pu 2 else if E = "java/lang/IllegalStateException" then z_pu 3 else z_fl) (fun r1 => (z_bd (z_sJ 15 p4 0 ((r1 : Int32).toInt64)) (fun _ => (z_pu 0)))))
theorem mh_L_removeBikes : z_MtH yL_removeBikes cL_removeBikes 5 (some .int) [(0, 10, 13, 21), (0, 10, 17, 13), (0, 10, 21, 62)] 4 := ⟨XT_t 1223 (by decide +kernel) rfl, ini_L, by decide, by decide, by decide +kernel⟩
set_option maxHeartbeats 4000000 in
set_option maxRecDepth 100000 in
theorem s_L_removeBikes (p1 : Nat) (p2 : Int32) (p3 : Int32) (p4 : Nat) : z_SoundH yL_removeBikes cL_removeBikes 5 (some .int) [(0, 10, 13, 21), (0, 10, 17, 13), (0, 10, 21, 62)] 8 131 (fun D b => [.ref (b + p1), .int p2, .int p3, .ref (b + p4)]) z_ivI (p_L_removeBikes p1 p2 p3 p4) := by
  refine z_ofSimH rfl (by intro D b; exact Nat.le_of_ble_eq_true rfl) (fun X C hTb => ?_)
  unfold p_L_removeBikes
  refine r_sub [(0, .ref (x_b X + p1)), (1, .int p2), (2, .int p3), (3, .ref (x_b X + p4))] rfl ?_
  refine r_aload_n (pc := 0) C dL_removeBikes_0 rfl rfl ?_
  refine r_iconst (pc := 1) C dL_removeBikes_1 ki_0 ?_
  refine r_aload_n (pc := 2) C dL_removeBikes_2 rfl rfl ?_
  refine r_iload_n (pc := 3) C dL_removeBikes_3 rfl rfl ?_
  refine r_iload_n (pc := 4) C dL_removeBikes_4 rfl rfl ?_
  refine r_catch (pc := 5) C hTb [.int p2, .int p3] [.int 0, .ref (x_b X + p4)] (s_X8_removeBikes p1 p2 p3) mt_X8_removeBikes zc_8 dL_removeBikes_5 ml_L_98 im_X8_removeBikes se_X8_removeBikes rfl rfl rfl (Nat.le_of_ble_eq_true rfl) ⟨Nat.le_of_ble_eq_true rfl, Nat.le_of_ble_eq_true rfl⟩ (fun E => ?_) (fun r1 => ?_)
  · by_cases h0 : E = "java/lang/IndexOutOfBoundsException"
    · subst h0
      refine Or.inr ⟨[], ⟨0, 10, 13, 21⟩, [⟨0, 10, 17, 13⟩, ⟨0, 10, 21, 62⟩], rfl, (fun z hz => nomatch hz), by decide, by decide, cl_L_21, by decide, fun q => ?_⟩
      rw [if_pos rfl]
      refine r_sta (pc := 13) C [] dL_removeBikes_13 (by decide) rfl ?_
      refine r_iconst (pc := 15) C dL_removeBikes_15 ki_1 ?_
      exact r_iret (pc := 16) C dL_removeBikes_16
    · skip
      by_cases h1 : E = "java/lang/IllegalArgumentException"
      · subst h1
        refine Or.inr ⟨[⟨0, 10, 13, 21⟩], ⟨0, 10, 17, 13⟩, [⟨0, 10, 21, 62⟩], rfl, (List.forall_mem_cons.mpr ⟨⟨by decide, _, cl_L_21, by decide, by decide⟩, fun z hz => nomatch hz⟩), by decide, by decide, cl_L_13, by decide, fun q => ?_⟩
        rw [if_neg (by decide)]; rw [if_pos rfl]
        refine r_sta (pc := 17) C [] dL_removeBikes_17 (by decide) rfl ?_
        refine r_iconst (pc := 19) C dL_removeBikes_19 ki_2 ?_
        exact r_iret (pc := 20) C dL_removeBikes_20
      · skip
        by_cases h2 : E = "java/lang/IllegalStateException"
        · subst h2
          refine Or.inr ⟨[⟨0, 10, 13, 21⟩, ⟨0, 10, 17, 13⟩], ⟨0, 10, 21, 62⟩, [], rfl, (List.forall_mem_cons.mpr ⟨⟨by decide, _, cl_L_21, by decide, by decide⟩, List.forall_mem_cons.mpr ⟨⟨by decide, _, cl_L_13, by decide, by decide⟩, fun z hz => nomatch hz⟩⟩), by decide, by decide, cl_L_62, by decide, fun q => ?_⟩
          rw [if_neg (by decide)];  rw [if_neg (by decide)]; rw [if_pos rfl]
          refine r_sta (pc := 21) C [] dL_removeBikes_21 (by decide) rfl ?_
          refine r_iconst (pc := 23) C dL_removeBikes_23 ki_3 ?_
          exact r_iret (pc := 24) C dL_removeBikes_24
        · rw [if_neg h0, if_neg h1, if_neg h2]; exact Or.inl rfl
  · refine r_i2l (pc := 8) C dL_removeBikes_8 ?_
    refine r_last (pc := 9) C dL_removeBikes_9 ?_
    refine r_goto (pc := 10) C (tgt := 25) dL_removeBikes_10 rfl ?_
    refine r_iconst (pc := 25) C dL_removeBikes_25 ki_0 ?_
    exact r_iret (pc := 26) C dL_removeBikes_26
