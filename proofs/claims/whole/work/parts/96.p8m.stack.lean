/-! ===== PHASE 2: the signs that wait in a fare ===== -/
def rk (x : Nat) : Nat := if x = 42 ∨ x = 47 then 2 else if x = 43 ∨ x = 45 then 1 else 0
def sv (x : Nat) : Prop := x = 40 ∨ x = 42 ∨ x = 43 ∨ x = 45 ∨ x = 47
/-- the class's row holds these signs, the top first -/
def stc (g : Nat → Int32) : List Nat → Prop
  | [] => True
  | x :: t => g t.length = oo (nI x) ∧ stc g t
/-- the model's -/
def stm (g : Nat → Int32) : List Nat → Prop
  | [] => True
  | x :: t => g t.length = nI x ∧ stm g t
def nop : List Nat → Nat
  | [] => 0
  | x :: t => if x = 40 then nop t else nop t + 1
def npa : List Nat → Nat
  | [] => 0
  | x :: t => if x = 40 then npa t + 1 else npa t
def trk : List Nat → Nat
  | [] => 0
  | x :: _ => rk x
def oks : List Nat → Prop
  | [] => True
  | x :: t => (x ≠ 40 → trk t < rk x) ∧ oks t
def SK (F G : Nat → Nat → Int32) (sp : Nat) (l : List Nat) (nc : Nat) : Prop := (F 2 1 = nI l.length ∧ stc (F 3) l) ∧ (G 75 16 = nI l.length ∧ stm (G 81) l) ∧ (∀ x, x ∈ l → sv x) ∧ F (sp + 10) 2 = nI nc ∧ G 77 8 = nI nc ∧ ∀ i, i < nc → F (sp + 10 + 1) i = s_it (G 79 i) ∧ s_iv (G 79 i)
section PA67
variable {α β : Type} {M N : zM} {F F' F1 G G' G1 : Nat → Nat → Int32} {b g cd cd' : Nat → Int32} {i j k m n s s' lo sp nc x r : Nat} {p q q' c v w : Int32} {l t : List Nat}
theorem rk_le : rk x ≤ 2 := by
  unfold rk
  split
  · omega
  · split <;> omega
theorem oks_b : ∀ l, oks l → nop l ≤ 2 * npa l + trk l ∧ trk l ≤ 2 ∧ l.length = nop l + npa l
  | [], _ => ⟨Nat.le_refl _, by decide, rfl⟩
  | x :: t, h => by
    obtain ⟨h1, h2, h3⟩ := oks_b t h.2
    have h4 := h.1
    have h5 := rk_le (x := x)
    unfold nop npa
    show _ ≤ _ + rk x ∧ rk x ≤ 2 ∧ t.length + 1 = _
    by_cases e : x = 40
    · rw [if_pos e, if_pos e]
      omega
    · rw [if_neg e, if_neg e]
      have := h4 e
      omega
theorem stc_up : ∀ l, stc g l → l.length ≤ k → stc (s_up g k v) l
  | [], _, _ => trivial
  | x :: t, h, hk => by
    have hk' : t.length + 1 ≤ k := hk
    exact ⟨(s_upn _ _ (by omega)).trans h.1, stc_up t h.2 (by omega)⟩
theorem stm_up : ∀ l, stm g l → l.length ≤ k → stm (s_up g k v) l
  | [], _, _ => trivial
  | x :: t, h, hk => by
    have hk' : t.length + 1 ≤ k := hk
    exact ⟨(s_upn _ _ (by omega)).trans h.1, stm_up t h.2 (by omega)⟩
theorem cr_k (h : sv x) : p_X1_rank (oo (nI x)) = z_pu (nI (rk x)) := by
  unfold p_X1_rank
  rcases h with h | h | h | h | h <;> subst h
  · rw [if_pos (by decide)]; rfl
  · rw [if_neg (by decide), if_neg (by decide), if_neg (by decide)]; rfl
  · rw [if_neg (by decide), if_pos (by decide)]; rfl
  · rw [if_neg (by decide), if_neg (by decide), if_pos (by decide)]; rfl
  · rw [if_neg (by decide), if_neg (by decide), if_neg (by decide)]; rfl
theorem mr_k (h : sv x) : p_X9_rank (nI x) = z_pu (nI (rk x)) := by
  unfold p_X9_rank
  rcases h with h | h | h | h | h <;> subst h
  · rw [if_neg (by decide), if_neg (by decide), if_neg (by decide), if_neg (by decide)]; rfl
  · rw [if_pos (by decide)]; rfl
  · rw [if_neg (by decide), if_neg (by decide), if_pos (by decide)]; rfl
  · rw [if_neg (by decide), if_neg (by decide), if_neg (by decide), if_pos (by decide)]; rfl
  · rw [if_neg (by decide), if_pos (by decide)]; rfl
/-- a sign as a code -/
theorem sg_it (h : sv x) (hx : x ≠ 40) : oo (nI x) = s_it (- nI x) ∧ s_iv (- nI x) ∧ - nI x < -4 := by
  rcases h with h | h | h | h | h
  · exact absurd h hx
  · subst h; exact ⟨by decide, Or.inr (Or.inr (Or.inr (Or.inl (by decide)))), by decide⟩
  · subst h; exact ⟨by decide, Or.inr (Or.inl (by decide)), by decide⟩
  · subst h; exact ⟨by decide, Or.inr (Or.inr (Or.inl (by decide))), by decide⟩
  · subst h; exact ⟨by decide, Or.inr (Or.inr (Or.inr (Or.inr (by decide)))), by decide⟩
theorem s_dp_eq : ∀ k, (∀ i, i < k → cd' i = cd i) → s_dp cd' k = s_dp cd k
  | 0, _ => rfl
  | k + 1, h => by
    unfold s_dp
    rw [h k (by omega), s_dp_eq k (fun i hi => h i (by omega))]
theorem s_cw_p (h : s_cw cd k) (he : ∀ i, i < k → cd' i = cd i) (h2 : cd' k < -4 → 2 ≤ s_dp cd k) (h3 : s_dp cd k < 16) : s_cw cd' (k + 1) := by
  intro i hi
  rw [s_dp_eq i (fun j hj => he j (by omega))]
  by_cases e : i = k
  · subst e
    exact ⟨h2, h3⟩
  · rw [he i (by omega)]
    exact h i (by omega)
theorem s_dp_p (he : ∀ i, i < k → cd' i = cd i) : s_dp cd' (k + 1) = if cd' k < -4 then s_dp cd k - 1 else s_dp cd k + 1 := by
  show (if cd' k < -4 then s_dp cd' k - 1 else s_dp cd' k + 1) = _
  rw [s_dp_eq k he]
theorem c_add (hF : LF k M) (h : F k 2 = nI m) (hm : m < 700) : (p_X2_add k v).1 (KI M F) = some (.inr (), KI M (z_up2 (z_up2 F (k + 1) m v) k 2 (nI (m + 1)))) := by
  unfold p_X2_add
  have g1 : z_up2 F (k + 1) m v k 2 = nI m := (u2_n _ _ (Or.inl (by omega))).trans h
  rw [kf_gI hF, h, kf_g0 hF, kf_n1 hF, if_neg (nI_ge hm (by decide)), kf_g0 hF, kf_gI hF, h, kf_s1 hF hm, kf_gI hF, g1, nI_1, kf_pI hF]
  rfl
theorem c_add7 (hF : LF k M) (h : F k 2 = nI 700) : (p_X2_add k v).1 (KI M F) = some (.inr (), KI M F) := by
  unfold p_X2_add
  rw [kf_gI hF, h, kf_g0 hF, kf_n1 hF, if_pos (Int32.le_refl _)]
  rfl
theorem m_emit (h9 : L9 N) (h : G 77 8 = nI m) (hm : m < 700) : (p_X9_emit 75 v).1 (KI N G) = some (.inr (), KI N (z_up2 (z_up2 G 79 m v) 77 8 (nI (m + 1)))) := by
  unfold p_X9_emit
  have g1 : z_up2 G 79 m v 77 8 = nI m := (u2_n _ _ (Or.inl (by omega))).trans h
  rw [kn_g79 h9, kn_g77 h9, kn_l77_8 h9, h, kn_s79 h9 hm, kn_g77 h9, kn_l77_8 h9, g1, nI_1, kn_t77_8 h9]
  rfl
/-- a code more in both -/
theorem SK_code (hsp : sp = 15 ∨ sp = 28) (h : SK F G sp l nc) (hv : w = s_it v ∧ s_iv v) : SK (z_up2 (z_up2 F (sp + 10 + 1) nc w) (sp + 10) 2 (nI (nc + 1))) (z_up2 (z_up2 G 79 nc v) 77 8 (nI (nc + 1))) sp l (nc + 1) := by
  obtain ⟨⟨a1, a2⟩, ⟨b1, b2⟩, h3, h4, h5, h6⟩ := h
  refine ⟨⟨?_, ?_⟩, ⟨?_, ?_⟩, h3, u2_s _ _ _ _, u2_s _ _ _ _, fun i hi => ?_⟩
  · rw [u2_n _ _ (by omega), u2_n _ _ (by omega)]; exact a1
  · rw [u2_row _ _ (by omega), u2_row _ _ (by omega)]; exact a2
  · rw [u2_n _ _ (by omega), u2_n _ _ (by omega)]; exact b1
  · rw [u2_row _ _ (by omega), u2_row _ _ (by omega)]; exact b2
  · rw [u2_n _ _ (by omega), u2_n (z_up2 G 79 nc v) _ (by omega)]
    by_cases e : i = nc
    · subst e
      rw [u2_s, u2_s]
      exact hv
    · rw [u2_n _ _ (by omega), u2_n _ _ (by omega)]
      exact h6 i (by omega)
/-- the top sign is gone -/
theorem SK_pop (hsp : sp = 15 ∨ sp = 28) (h : SK F G sp (x :: t) nc) : SK (z_up2 F 2 1 (nI t.length)) (z_up2 G 75 16 (nI t.length)) sp t nc := by
  obtain ⟨⟨a1, a2⟩, ⟨b1, b2⟩, h3, h4, h5, h6⟩ := h
  refine ⟨⟨u2_s _ _ _ _, ?_⟩, ⟨u2_s _ _ _ _, ?_⟩, fun y hy => h3 y (List.mem_cons_of_mem _ hy), ?_, ?_, fun i hi => ?_⟩
  · rw [u2_row _ _ (by omega)]; exact a2.2
  · rw [u2_row _ _ (by omega)]; exact b2.2
  · rw [u2_n _ _ (by omega)]; exact h4
  · rw [u2_n _ _ (by omega)]; exact h5
  · rw [u2_n _ _ (by omega), u2_n _ _ (by omega)]; exact h6 i hi
/-- a sign more in both -/
theorem SK_push (hsp : sp = 15 ∨ sp = 28) (h : SK F G sp l nc) (hx : sv x) : SK (z_up2 (z_up2 F 3 l.length (oo (nI x))) 2 1 (nI (l.length + 1))) (z_up2 (z_up2 G 81 l.length (nI x)) 75 16 (nI (l.length + 1))) sp (x :: l) nc := by
  obtain ⟨⟨a1, a2⟩, ⟨b1, b2⟩, h3, h4, h5, h6⟩ := h
  refine ⟨⟨u2_s _ _ _ _, ?_, ?_⟩, ⟨u2_s _ _ _ _, ?_, ?_⟩, fun y hy => ?_, ?_, ?_, fun i hi => ?_⟩
  · rw [u2_row _ _ (by omega), u2_rs, s_ups]
  · rw [u2_row _ _ (by omega), u2_rs]; exact stc_up l a2 (Nat.le_refl _)
  · rw [u2_row _ _ (by omega), u2_rs, s_ups]
  · rw [u2_row _ _ (by omega), u2_rs]; exact stm_up l b2 (Nat.le_refl _)
  · rcases List.mem_cons.mp hy with e | e
    · rw [e]; exact hx
    · exact h3 y e
  · rw [u2_n _ _ (by omega), u2_n _ _ (by omega)]; exact h4
  · rw [u2_n _ _ (by omega), u2_n _ _ (by omega)]; exact h5
  · rw [u2_n _ _ (by omega), u2_n _ _ (by omega), u2_n _ _ (by omega), u2_n _ _ (by omega)]; exact h6 i hi
end PA67
