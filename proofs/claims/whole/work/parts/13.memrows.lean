/-! ===== rows: memory ===== -/
/-- a class of the worlds: its number, name, fields -/
def z_Cl (c : Nat) (Cn : String) (T : u_T) (N : Nat) : Prop := c < 10 ∧ vwCl[c]? = some (Cn, T, N) ∧ (∀ w ∈ u_ws Cn T N, w ∈ XT) ∧ (∀ k, k < N → parseFieldDescriptor (T k).2.2.1 = some (z_ft c k)) ∧ ∀ a, a < N → ∀ b, b < N → a ≠ b → (T a).2.1 ≠ (T b).2.1
/-- the entry idx of own's pool is the field k of class c -/
def z_FL (own : String) (idx c k : Nat) : Prop := ∃ (Cn : String) (T : u_T) (N : Nat), z_Cl c Cn T N ∧ k < N ∧ Cond.fieldLink own idx (T k).1 (T k).2.1 (T k).2.2.1 ∈ XT
theorem z_gd_inv {α : Type} {c : zM → Prop} [DecidablePred c] {p : zP α} {M M1 : zM} {r : String ⊕ α} (h : (z_gd c p).1 M = some (r, M1)) : c M ∧ p.1 M = some (r, M1) := by
  have h : (if c M then p.1 M else none) = some (r, M1) := h
  by_cases hc : c M
  · rw [if_pos hc] at h; exact ⟨hc, h⟩
  · rw [if_neg hc] at h; cases h
theorem z_gs_inv {α β : Type} {c : zM → Prop} [DecidablePred c] {f : zM → α × zM} {hf : ∀ M, z_le M (f M).2} {k : α → zP β} {M M1 : zM} {r : String ⊕ β} (h : (z_bd (z_gd c (z_st f hf)) k).1 M = some (r, M1)) : c M ∧ (k (f M).1).1 (f M).2 = some (r, M1) := by
  rcases z_bd_inv h with ⟨a, M2, h1, h2⟩ | ⟨E, h1, -⟩
  · obtain ⟨hc, h3⟩ := z_gd_inv h1
    cases h3
    exact ⟨hc, h2⟩
  · obtain ⟨hc, h3⟩ := z_gd_inv h1
    cases h3
theorem z_st_inv {α β : Type} {f : zM → α × zM} {hf : ∀ M, z_le M (f M).2} {k : α → zP β} {M M1 : zM} {r : String ⊕ β} (h : (z_bd (z_st f hf) k).1 M = some (r, M1)) : (k (f M).1).1 (f M).2 = some (r, M1) := by
  rcases z_bd_inv h with ⟨a, M2, h1, h2⟩ | ⟨E, h1, -⟩
  · cases h1
    exact h2
  · cases h1
theorem z_Cl.n {c : Nat} {Cn : String} {T : u_T} {N : Nat} (h : z_Cl c Cn T N) : z_N c = N := by
  unfold z_N
  rw [h.2.1]
  rfl
theorem z_Inv.obj {D : zD} {b : Nat} {Z : Heap} {M : zM} {H : Heap} (h : z_Inv D b Z M H) {c a : Nat} {Cn : String} {T : u_T} {N : Nat} (hC : z_Cl c Cn T N) (ha : z_is c a M) : t_OB (b + a) (D.1 c) N (D.2.1 c) H (z_fv b M c a) := by
  have hat := h.2.2.2 a ha.1
  unfold z_at at hat
  rw [ha.2, if_pos hC.1, hC.n] at hat
  exact hat
theorem z_Inv.arr {D : zD} {b : Nat} {Z : Heap} {M : zM} {H : Heap} (h : z_Inv D b Z M H) {c a : Nat} (hC : 10 ≤ c ∧ c < 16) (ha : z_is c a M) : H[b + a]? = some (arrV (D.2.2.1 c) (z_ln M a) (z_ev b M c a)) := by
  have hat := h.2.2.2 a ha.1
  unfold z_at at hat
  rw [ha.2, if_neg (Nat.not_lt.mpr hC.1), if_pos hC.2] at hat
  exact hat
section ZM
variable {β : Type} {X : zX} {y : MethodName} {cc : ByteArray} {nL : Nat} {rt : Option FieldType} {fr lo : Nat} {K : String ⊕ β → zM → Prop} {pc : Nat} {lv : List (Nat × Value)} {st : List Value} {g : zP β}
theorem z_Ok.G (C : z_Ok X y cc nL rt fr lo) : z_G (x_D X) (x_b X) (x_Z X) (x_s X) := C.2.2.2.2.2.2.2.1
theorem z_Ok.ws (C : z_Ok X y cc nL rt fr lo) : ∀ w ∈ XT, w.before (x_args X) (x_s X) = true := C.2.2.2.2.1
theorem z_Ok.own (C : z_Ok X y cc nL rt fr lo) : (x_s X).vm.findClass y.cls = some (x_m X).cls := C.2.2.2.1
theorem z_Ok.kn (C : z_Ok X y cc nL rt fr lo) : va_K (z_DD (x_D X)) vwCl (z_tys (x_D X)) (x_s X) := C.G.1
theorem z_Ok.aty (C : z_Ok X y cc nL rt fr lo) {c : Nat} {ty : FieldType} (h : (z_tys (x_D X))[c - 10]? = some ((x_D X).2.2.1 c, ty)) : ArrOfT (x_s X) ((x_D X).2.2.1 c) ty ∧ va_RA (x_s X) ((x_D X).2.2.1 c) ty := C.kn.2 (c - 10) _ h
/-- a field read: the machine's part -/
theorem z_getW (C : z_Ok X y cc nL rt fr lo) {c a k idx : Nat} {M : zM} {H : Heap} {locs : List Loc} {ls : Array Slot} (hf : z_FL y.cls idx c k) (hd : decode cc pc = .ok (.getfield idx, 3)) (hI : x_Inv X M H) (ha : z_is c a M)
    (kk : z_W X (pc + 3) ls (z_fv (x_b X) M c a k :: st) H locs M) : z_W X pc ls (.ref (x_b X + a) :: st) H locs M := by
  obtain ⟨Cn, T, N, hC, hk, hl⟩ := hf
  obtain ⟨cell, q1, q2, q3, q4⟩ := z_Inv.obj hI hC ha
  obtain ⟨hS, hfc, kC, hkC, hkind⟩ := C.kn.1 c _ hC.2.1
  obtain ⟨cf, kf, fi, f, hi, hsl⟩ := hS k hk
  exact W.getf C.1 C.2.1 C.own (C.ws _ hl) hi (u_facts hfc hkC (u_lays C.ws hC.2.2.1 hk) hi).1 q1 (by rw [q3]; exact fun h => by cases h) (v := z_fv (x_b X) M c a k) (by rw [hsl, q4 k hk]) rfl rfl hd kk
theorem r_getI (C : z_Ok X y cc nL rt fr lo) {c a k idx : Nat} {kk : Int32 → zP β} (hd : decode cc pc = .ok (.getfield idx, 3)) (hf : z_FL y.cls idx c k) (hr : z_isr (z_ft c k) = false) (h : ∀ v, z_Sim X nL K (pc + 3) lv (.int v :: st) (kk v)) : z_Sim X nL K pc lv (.ref (x_b X + a) :: st) (z_bd (z_gI c a k) kk) := by
  intro M H locs ls r M1 hI hL h0 hl hp hK hF
  obtain ⟨hc, hp⟩ := z_gs_inv hp
  refine z_getW C hf hd hI hc ?_
  have e : z_fv (x_b X) M c a k = .int (z_i M a k) := by unfold z_fv; rw [hr]; rfl
  rw [e]
  exact h _ M H locs ls r M1 hI hL h0 hl hp hK hF
/-- a reference that isn't null -/
def z_gA (c a k : Nat) : zP Nat := z_bd (z_gR c a k) (fun r => z_nn r z_pu)
theorem r_getA (C : z_Ok X y cc nL rt fr lo) {c a k idx : Nat} {kk : Nat → zP β} (hd : decode cc pc = .ok (.getfield idx, 3)) (hf : z_FL y.cls idx c k) (hr : z_isr (z_ft c k) = true) (h : ∀ v : Nat, z_Sim X nL K (pc + 3) lv (.ref (x_b X + v) :: st) (kk v)) : z_Sim X nL K pc lv (.ref (x_b X + a) :: st) (z_bd (z_gA c a k) kk) := by
  intro M H locs ls r M1 hI hL h0 hl hp hK hF
  rcases z_bd_inv hp with ⟨v, M2, h1, h2⟩ | ⟨E, h1, -⟩
  · obtain ⟨hc, h3⟩ := z_gs_inv h1
    refine z_getW C hf hd hI hc ?_
    have e : z_fv (x_b X) M c a k = z_rv (x_b X) (z_r M a k) := by unfold z_fv; rw [hr]; rfl
    rw [e]
    dsimp only at h3
    cases hv : z_r M a k with
    | none => rw [hv] at h3; cases h3
    | some q =>
      rw [hv] at h3
      cases h3
      exact h _ M H locs ls r M1 hI hL h0 hl h2 hK hF
  · obtain ⟨hc, h3⟩ := z_gs_inv h1
    dsimp only at h3
    cases hv : z_r M a k with
    | none => rw [hv] at h3; cases h3
    | some q => rw [hv] at h3; cases h3
/-- a field written: the machine's part -/
theorem z_putW (C : z_Ok X y cc nL rt fr lo) {c a k idx : Nat} {M M' : zM} {H : Heap} {locs : List Loc} {ls : Array Slot} {v : Value} (hf : z_FL y.cls idx c k) (hfin : ∀ (Cn : String) (T : u_T) (N : Nat), vwCl[c]? = some (Cn, T, N) → (T k).2.2.2 = false ∨ (y.name = "<init>" ∧ (T k).1 = y.cls)) (hd : decode cc pc = .ok (.putfield idx, 3)) (hI : x_Inv X M H) (ha : z_is c a M)
    (hn : narrow (z_ft c k) v = v) (hfit : fits (z_ft c k) v = true) (hnx : z_nx M' = z_nx M) (hkd : z_kd M' = z_kd M) (hln : z_ln M' = z_ln M) (hi : ∀ x, x ≠ a → z_i M' x = z_i M x) (hr : ∀ x, x ≠ a → z_r M' x = z_r M x) (hj : ∀ x, x ≠ a → z_j M' x = z_j M x)
    (hv : ∀ j, updV (z_fv (x_b X) M c a) k v j = z_fv (x_b X) M' c a j) (hL : ∀ q ∈ locs, x_b X ≤ q.base)
    (kk : ∀ H' locs', x_Inv X M' H' → (∀ q ∈ locs', x_b X ≤ q.base) → z_W X (pc + 3) ls st H' locs' M) : z_W X pc ls (v :: .ref (x_b X + a) :: st) H locs M := by
  obtain ⟨Cn, T, N, hC, hk, hl⟩ := hf
  obtain ⟨cell, q1, q2, q3, q4⟩ := z_Inv.obj hI hC ha
  have hap := va_apart (own := y.cls) C.ws hC.2.2.1 (z_ft c) hC.2.2.2.1 hC.2.2.2.2 C.kn hC.2.1
  obtain ⟨hS, hfc, kC, hkC, hkind⟩ := C.kn.1 c _ hC.2.1
  obtain ⟨cf, kf, fi, f, hi', hsl⟩ := hS k hk
  have hlay := C.ws _ (hC.2.2.1 _ (u_in_lay hk))
  have hst := (u_facts hfc hkC (u_lays C.ws hC.2.2.1 hk) hi').1
  have go : ∀ H' : Heap, H'[x_b X + a]? = some (cell.setSlot f.slot v) → H'.size = H.size → (∀ q, q ≠ x_b X + a → H'[q]? = H[q]?) → W (x_p X) (x_l X) (x_e X) (x_R X) (x_s X) (x_m X) (x_args X) (x_below X) (x_meth X) (x_c X) H' (locs ++ [⟨x_b X + a, f.slot⟩]) (z_nx M - z_nx (x_M0 X)) (z_sl M - z_sl (x_M0 X))
    (vx_MQ (x_below X) (z_Qc (x_D X) (x_b X) (x_Z X) (x_MF X) (x_F X)) (z_XC (x_D X) (x_b X) (x_Z X) (x_MF X) (x_F X)) (x_args X) (x_s X) (z_nx (x_MF X) - z_nx (x_M0 X)) (z_sl (x_MF X) - z_sl (x_M0 X)) (fun q => x_b X ≤ q)) (F0 (x_m X) (pc + 3) ls st) := by
    intro H' e1 e2 e3
    refine kk H' _ ?_ ?_
    · refine z_Inv.set hI hnx e2 e3 hkd hln hi hr hj ?_
      unfold z_at
      rw [hkd, ha.2, if_pos hC.1, hC.n]
      rw [hsl] at e1
      exact t_OB.to (V := updV (z_fv (x_b X) M c a) k v) ⟨_, e1, q2, q3, t_set q4 hap hk v⟩ (fun j _ => hv j)
    · intro q hq
      rcases List.mem_append.mp hq with h1 | h1
      · exact hL q h1
      · rw [List.mem_singleton.mp h1]; exact Nat.le_add_right _ _
  unfold u_lay at hlay
  rcases hfin _ _ _ hC.2.1 with hff | ⟨hin2, hdecl⟩
  · rw [if_neg (by rw [hff]; decide)] at hlay
    have h6 := u_store hfc hkC hkind hlay hi' (hC.2.2.2.1 k hk) hn hfit
    exact W.putK C.1 C.2.1 (f := f) ⟨C.own, C.ws _ hl, ⟨_, _, _, hi'⟩, hst⟩ (by rw [q2]; exact h6) q1 q3 (by rw [hsl]; exact k2_hasslot (q4 k hk)) rfl rfl hd go
  · by_cases hff : (T k).2.2.2 = true
    · rw [if_pos hff] at hlay
      have hcf : (x_m X).cls = cf := by
        obtain ⟨_, _, c', _, _, _, -, -, hf', -, -, -, hown2, -⟩ := Cond.laysFinal_spec hlay
        have e1 : c' = cf := by have := hi'.symm.trans hf'; simp at this; exact this.1.symm
        rw [hdecl] at hown2
        rw [← e1]; exact Option.some.inj (C.own.symm.trans hown2)
      have h6 := u_fits hfc hkC hkind (Or.inr hlay) hi' (hC.2.2.2.1 k hk) hn hfit
      exact W.putFinK C.1 C.2.1 C.own (C.ws _ hl) hi' hst hcf (C.2.2.2.2.2.2.2.2.2.2.2.2.2.1.trans hin2) (by rw [q2]; exact h6) q1 q3 (by rw [hsl]; exact k2_hasslot (q4 k hk)) rfl rfl hd go
    · rw [if_neg hff] at hlay
      have h6 := u_store hfc hkC hkind hlay hi' (hC.2.2.2.1 k hk) hn hfit
      exact W.putK C.1 C.2.1 (f := f) ⟨C.own, C.ws _ hl, ⟨_, _, _, hi'⟩, hst⟩ (by rw [q2]; exact h6) q1 q3 (by rw [hsl]; exact k2_hasslot (q4 k hk)) rfl rfl hd go
/-- is the field final? -/
def z_fin0 (c k : Nat) : Bool := ((vwCl[c]?).map (fun r => (r.2.1 k).2.2.2)).getD false
def z_dcl (c k : Nat) : String := ((vwCl[c]?).map (fun r => (r.2.1 k).1)).getD ""
theorem z_nf {c k : Nat} {y : MethodName} (h : z_fin0 c k = false ∨ (y.name = "<init>" ∧ z_dcl c k = y.cls)) : ∀ (Cn : String) (T : u_T) (N : Nat), vwCl[c]? = some (Cn, T, N) → (T k).2.2.2 = false ∨ (y.name = "<init>" ∧ (T k).1 = y.cls) := by
  intro Cn T N hc
  unfold z_fin0 z_dcl at h
  rw [hc] at h
  exact h
theorem z_up2_ne {α : Type} {f : Nat → Nat → α} {a k x : Nat} {v : α} (h : x ≠ a) : z_up2 f a k v x = f x := by
  funext j
  unfold z_up2
  rw [if_neg (fun q => h q.1)]
theorem z_up1_ne {α : Type} {f : Nat → α} {a x : Nat} {v : α} (h : x ≠ a) : z_up1 f a v x = f x := by
  unfold z_up1
  rw [if_neg h]
theorem z_up2_at {α : Type} {f : Nat → Nat → α} {a k j : Nat} {v : α} : z_up2 f a k v a j = if j = k then v else f a j := by
  unfold z_up2
  by_cases h : j = k
  · rw [if_pos ⟨rfl, h⟩, if_pos h]
  · rw [if_neg (fun q => h q.2), if_neg h]
theorem z_fv_wi {b : Nat} {M : zM} {c a k : Nat} {v : Int32} (hr : z_isr (z_ft c k) = false) (j : Nat) : updV (z_fv b M c a) k (.int v) j = z_fv b (z_wi M a k v) c a j := by
  unfold updV z_fv
  rw [show z_i (z_wi M a k v) = z_up2 (z_i M) a k v from rfl, show z_r (z_wi M a k v) = z_r M from rfl, z_up2_at]
  by_cases h : j = k
  · subst h; rw [if_pos rfl, hr, if_pos rfl]; rfl
  · rw [if_neg h, if_neg h]
theorem z_fv_wr {b : Nat} {M : zM} {c a k : Nat} {v : Option Nat} (hr : z_isr (z_ft c k) = true) (j : Nat) : updV (z_fv b M c a) k (z_rv b v) j = z_fv b (z_wr M a k v) c a j := by
  unfold updV z_fv
  rw [show z_i (z_wr M a k v) = z_i M from rfl, show z_r (z_wr M a k v) = z_up2 (z_r M) a k v from rfl, z_up2_at]
  by_cases h : j = k
  · subst h; rw [if_pos rfl, hr, if_pos rfl, if_pos rfl]
  · rw [if_neg h, if_neg h]
theorem r_putI (C : z_Ok X y cc nL rt fr lo) {c a k idx : Nat} {v : Int32} {kk : Unit → zP β} (hd : decode cc pc = .ok (.putfield idx, 3)) (hf : z_FL y.cls idx c k) (hty : z_ft c k = .int) (hfn : z_fin0 c k = false) (h : z_Sim X nL K (pc + 3) lv st (kk ())) : z_Sim X nL K pc lv (.int v :: .ref (x_b X + a) :: st) (z_bd (z_pI c a k v) kk) := by
  intro M H locs ls r M1 hI hL h0 hl hp hK hF
  obtain ⟨hc, hp⟩ := z_gs_inv hp
  refine z_putW C (M' := z_wi M a k v) hf (z_nf (Or.inl hfn)) hd hI hc (by rw [hty]; rfl) (by rw [hty]; rfl) rfl rfl rfl (fun x hx => z_up2_ne hx) (fun _ _ => rfl) (fun _ _ => rfl) (z_fv_wi (by rw [hty]; rfl)) hL (fun H' locs' hI' hL' => ?_)
  exact h (z_wi M a k v) H' locs' ls r M1 hI' hL' h0 hl hp hK hF
theorem r_putZ (C : z_Ok X y cc nL rt fr lo) {c a k idx : Nat} {v : Int32} {kk : Unit → zP β} (hd : decode cc pc = .ok (.putfield idx, 3)) (hf : z_FL y.cls idx c k) (hty : z_ft c k = .boolean) (hfn : z_fin0 c k = false) (h : z_Sim X nL K (pc + 3) lv st (kk ())) : z_Sim X nL K pc lv (.int v :: .ref (x_b X + a) :: st) (z_bd (z_pZ c a k v) kk) := by
  intro M H locs ls r M1 hI hL h0 hl hp hK hF
  obtain ⟨⟨hc, hv⟩, hp⟩ := z_gs_inv hp
  refine z_putW C (M' := z_wi M a k v) hf (z_nf (Or.inl hfn)) hd hI hc (by rw [hty]; rcases hv with rfl | rfl <;> rfl) (by rw [hty]; rcases hv with rfl | rfl <;> rfl) rfl rfl rfl (fun x hx => z_up2_ne hx) (fun _ _ => rfl) (fun _ _ => rfl) (z_fv_wi (by rw [hty]; rfl)) hL (fun H' locs' hI' hL' => ?_)
  exact h (z_wi M a k v) H' locs' ls r M1 hI' hL' h0 hl hp hK hF
theorem z_isr_nf {t : FieldType} (h : z_isr t = true) (b : Nat) (v : Option Nat) : narrow t (z_rv b v) = z_rv b v ∧ fits t (z_rv b v) = true := by
  cases t <;> first | (cases v <;> exact ⟨rfl, rfl⟩) | cases h
/-- a reference into a field -/
theorem r_putA (C : z_Ok X y cc nL rt fr lo) {c a k idx v : Nat} {kk : Unit → zP β} (hd : decode cc pc = .ok (.putfield idx, 3)) (hf : z_FL y.cls idx c k) (hr : z_isr (z_ft c k) = true) (hfn : z_fin0 c k = false ∨ (y.name = "<init>" ∧ z_dcl c k = y.cls)) (h : z_Sim X nL K (pc + 3) lv st (kk ())) : z_Sim X nL K pc lv (.ref (x_b X + v) :: .ref (x_b X + a) :: st) (z_bd (z_pR c a k (some v)) kk) := by
  intro M H locs ls r M1 hI hL h0 hl hp hK hF
  obtain ⟨hc, hp⟩ := z_gs_inv hp
  refine z_putW C (v := z_rv (x_b X) (some v)) (M' := z_wr M a k (some v)) hf (z_nf hfn) hd hI hc (z_isr_nf hr _ _).1 (z_isr_nf hr _ _).2 rfl rfl rfl (fun _ _ => rfl) (fun x hx => z_up2_ne hx) (fun _ _ => rfl) (z_fv_wr hr) hL (fun H' locs' hI' hL' => ?_)
  exact h (z_wr M a k (some v)) H' locs' ls r M1 hI' hL' h0 hl hp hK hF
end ZM
