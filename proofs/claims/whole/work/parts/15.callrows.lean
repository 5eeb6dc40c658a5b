/-! ===== rows: new cells, ends, joins, loops, calls ===== -/
/-- the answer of an inner part: on to the label, or past it -/
def z_jn {τ β : Type} (g : zP (τ ⊕ β)) (k : τ → zP β) : zP β := z_bd g (fun r => match r with
  | .inl t => k t
  | .inr b => z_pu b)
section ZC
variable {β : Type} {X : zX} {y : MethodName} {cc : ByteArray} {nL : Nat} {rt : Option FieldType} {fr lo : Nat} {K : String ⊕ β → zM → Prop} {pc : Nat} {lv : List (Nat × Value)} {st : List Value} {g : zP β}
/-- behind a label: the machine at pc, locals lvf t, stack stf t -/
def z_KT {τ : Type} (X : zX) (nL : Nat) (K : String ⊕ β → zM → Prop) (pc : Nat) (lvf : τ → List (Nat × Value)) (stf : τ → List Value) : String ⊕ (τ ⊕ β) → zM → Prop := fun r M => match r with
  | .inl E => K (.inl E) M
  | .inr (.inr b) => K (.inr b) M
  | .inr (.inl t) => ∀ (H : Heap) (locs : List Loc) (ls : Array Slot), x_Inv X M H → (∀ q ∈ locs, x_b X ≤ q.base) → lv_has ls nL (lvf t) → z_W X pc ls (stf t) H locs M
theorem r_br {τ : Type} {lvf : τ → List (Nat × Value)} {stf : τ → List Value} (t : τ) : z_Sim X nL (z_KT X nL K pc lvf stf) pc (lvf t) (stf t) (z_pu (.inl t)) := by
  intro M H locs ls r M1 hI hL h0 hl hp hK hF
  cases hp
  exact hK H locs ls hI hL hl
theorem r_up {τ : Type} {lvf : τ → List (Nat × Value)} {stf : τ → List Value} {b : β} {pc' : Nat} (h : z_Sim X nL K pc lv st (z_pu b)) : z_Sim X nL (z_KT X nL K pc' lvf stf) pc lv st (z_pu (.inr b)) := by
  intro M H locs ls r M1 hI hL h0 hl hp hK hF
  cases hp
  exact h M H locs ls _ M hI hL h0 hl rfl hK hF
theorem r_jn {τ : Type} (pc' : Nat) (lvf : τ → List (Nat × Value)) (stf : τ → List Value) {gg : zP (τ ⊕ β)} {k : τ → zP β} (hk : ∀ t, z_Sim X nL K pc' (lvf t) (stf t) (k t)) (h : z_Sim X nL (z_KT X nL K pc' lvf stf) pc lv st gg) : z_Sim X nL K pc lv st (z_jn gg k) := by
  intro M H locs ls r M1 hI hL h0 hl hp hK hF
  rcases z_bd_inv hp with ⟨a, M2, h1, h2⟩ | ⟨E, h1, h2⟩
  · have hm := (show z_le M2 M1 from match a, h2 with
      | .inl t, h2 => (k t).2 _ _ _ h2
      | .inr b, h2 => by cases h2; exact z_le.rf _)
    refine h M H locs ls _ M2 hI hL h0 hl h1 ?_ (hm.tr hF)
    cases a with
    | inl t =>
      intro H' locs' ls' hI' hL' hl'
      exact hk t M2 H' locs' ls' r M1 hI' hL' (h0.tr (gg.2 _ _ _ h1)) hl' h2 hK hF
    | inr b =>
      cases h2
      exact hK
  · subst h2
    exact h M H locs ls _ M1 hI hL h0 hl h1 hK hF
theorem r_lp {σ : Type} (lvf : σ → List (Nat × Value)) {f : σ → zP (σ ⊕ β)} (h : ∀ s, z_Sim X nL (z_KT X nL K pc lvf (fun _ => [])) pc (lvf s) [] (f s)) (s : σ) : z_Sim X nL K pc (lvf s) [] (z_lp f s) := by
  intro M H locs ls r M1 hI hL h0 hl hp hK hF
  obtain ⟨n, hn⟩ := (z_lp_iff f s M (r, M1)).mp hp
  clear hp
  revert s M H locs ls
  induction n with
  | zero => intro s M H locs ls hI hL h0 hl hn; cases hn
  | succ n ih =>
    intro s M H locs ls hI hL h0 hl hn
    rcases z_bd_inv hn with ⟨a, M2, h1, h2⟩ | ⟨E, h1, h2⟩
    · have hm := (show z_le M2 M1 from match a, h2 with
        | .inl t, h2 => (z_lpN n f t).2 _ _ _ h2
        | .inr b, h2 => by cases h2; exact z_le.rf _)
      refine h s M H locs ls _ M2 hI hL h0 hl h1 ?_ (hm.tr hF)
      cases a with
      | inl t =>
        intro H' locs' ls' hI' hL' hl'
        exact ih t M2 H' locs' ls' hI' hL' (h0.tr ((f s).2 _ _ _ h1)) hl' h2
      | inr b =>
        cases h2
        exact hK
    · subst h2
      exact h s M H locs ls _ M1 hI hL h0 hl h1 hK hF
/-- a name for a number -/
theorem r_let {α : Type} (e : α) (lvf : α → List (Nat × Value)) (stf : α → List Value) {k : α → zP β} (h : ∀ x, z_Sim X nL K pc (lvf x) (stf x) (k x)) : z_Sim X nL K pc (lvf e) (stf e) (z_bd (z_pu e) k) := by
  intro M H locs ls r M1 hI hL h0 hl hp hK hF
  exact h e M H locs ls r M1 hI hL h0 hl hp hK hF
/-- what a throw means here -/
def z_KX (X : zX) (K : String ⊕ β → zM → Prop) : Prop := (∀ E M, K (.inl E) M → M = x_MF X ∧ x_F X = .inl E) ∧ z_Nt X
theorem z_KX.zero {iv : β → Option Value} (hT : z_Nt X) : z_KX X (z_K0 X iv) := ⟨fun _ _ h => ⟨h.1, h.2⟩, hT⟩
theorem z_KX.up {τ : Type} {lvf : τ → List (Nat × Value)} {stf : τ → List Value} (h : z_KX X K) : z_KX X (z_KT X nL K pc lvf stf) := ⟨fun E M hk => h.1 E M hk, h.2⟩
/-! ends -/
theorem z_qc (C : z_Ok X y cc nL rt fr lo) {M : zM} {H : Heap} {v : Option Value} (hI : x_Inv X M H) (hM : M = x_MF X) (hv : x_F X = .inr v) : ∀ t : State, t.heap = H → (x_s X).WarmedH t.vm → z_Qc (x_D X) (x_b X) (x_Z X) (x_MF X) (x_F X) (x_args X) (x_s X) (.returned v) t := by
  intro t ht _
  refine ⟨v, hv, rfl, ?_⟩
  rw [ht, ← hM]
  exact hI
theorem r_iret (C : z_Ok X y cc nL (some .int) fr lo) {v : Int32} (hd : decode cc pc = .ok (.ireturn, 1)) : z_Sim X nL (z_K0 X z_ivI) pc lv [.int v] (z_pu v) := by
  intro M H locs ls r M1 hI hL h0 hl hp hK hF
  cases hp
  obtain ⟨hM, hv⟩ := hK
  have w := W.iret (Qc := z_Qc (x_D X) (x_b X) (x_Z X) (x_MF X) (x_F X)) (free := fun q => x_b X ≤ q) (cells := z_nx M - z_nx (x_M0 X)) (slots := z_sl M - z_sl (x_M0 X)) (p := x_p X) (l := x_l X) (e := x_e X) (R := x_R X) (m := x_m X) (below := x_below X) (ls := ls) C.1 C.2.1 C.2.2.2.2.2.2.2.2.2.2.2.2.2.2.1 (z_qc C hI hM hv) hL hd C.2.2.2.2.2.1
  rw [hM] at w
  unfold z_W
  rw [hM]
  exact vx_ret w
theorem r_zret (C : z_Ok X y cc nL (some .boolean) fr lo) {v : Int32} (hd : decode cc pc = .ok (.ireturn, 1)) : z_Sim X nL (z_K0 X z_ivI) pc lv [.int v] (z_rz v) := by
  intro M H locs ls r M1 hI hL h0 hl hp hK hF
  unfold z_rz at hp
  by_cases hb : v = 0 ∨ v = 1
  · rw [if_pos hb] at hp
    cases hp
    obtain ⟨hM, hv⟩ := hK
    have w := W.zret (Qc := z_Qc (x_D X) (x_b X) (x_Z X) (x_MF X) (x_F X)) (free := fun q => x_b X ≤ q) (cells := z_nx M - z_nx (x_M0 X)) (slots := z_sl M - z_sl (x_M0 X)) (p := x_p X) (l := x_l X) (e := x_e X) (R := x_R X) (m := x_m X) (below := x_below X) (ls := ls) C.1 C.2.1 C.2.2.2.2.2.2.2.2.2.2.2.2.2.2.1 (by rcases hb with rfl | rfl <;> rfl) (z_qc C hI hM hv) hL hd C.2.2.2.2.2.1
    rw [hM] at w
    unfold z_W
    rw [hM]
    exact vx_ret w
  · rw [if_neg hb] at hp
    cases hp
theorem r_lret (C : z_Ok X y cc nL (some .long) fr lo) {v : Int64} (hd : decode cc pc = .ok (.lreturn, 1)) : z_Sim X nL (z_K0 X z_ivJ) pc lv [.long v] (z_pu v) := by
  intro M H locs ls r M1 hI hL h0 hl hp hK hF
  cases hp
  obtain ⟨hM, hv⟩ := hK
  have w := W.lret (Qc := z_Qc (x_D X) (x_b X) (x_Z X) (x_MF X) (x_F X)) (free := fun q => x_b X ≤ q) (cells := z_nx M - z_nx (x_M0 X)) (slots := z_sl M - z_sl (x_M0 X)) (p := x_p X) (l := x_l X) (e := x_e X) (R := x_R X) (m := x_m X) (below := x_below X) (ls := ls) C.1 C.2.1 C.2.2.2.2.2.2.2.2.2.2.2.2.2.2.1 (z_qc C hI hM hv) hL hd C.2.2.2.2.2.1
  rw [hM] at w
  unfold z_W
  rw [hM]
  exact vx_ret w
theorem r_vret (C : z_Ok X y cc nL none fr lo) (hd : decode cc pc = .ok (.return_, 1)) : z_Sim X nL (z_K0 X z_ivV) pc lv [] (z_pu ()) := by
  intro M H locs ls r M1 hI hL h0 hl hp hK hF
  cases hp
  obtain ⟨hM, hv⟩ := hK
  have w := W.vret (Qc := z_Qc (x_D X) (x_b X) (x_Z X) (x_MF X) (x_F X)) (free := fun q => x_b X ≤ q) (cells := z_nx M - z_nx (x_M0 X)) (slots := z_sl M - z_sl (x_M0 X)) (p := x_p X) (l := x_l X) (e := x_e X) (R := x_R X) (m := x_m X) (below := x_below X) (ls := ls) C.1 C.2.1 C.2.2.2.2.2.2.2.2.2.2.2.2.2.2.1 (z_qc C hI hM hv) hL hd C.2.2.2.2.2.1
  rw [hM] at w
  unfold z_W
  rw [hM]
  exact vx_ret w
end ZC
