/-! ===== rows: arrays, new cells, ends, loops and joins ===== -/
section ZA
variable {β : Type} {X : zX} {y : MethodName} {cc : ByteArray} {nL : Nat} {rt : Option FieldType} {fr lo : Nat} {K : String ⊕ β → zM → Prop} {pc : Nat} {lv : List (Nat × Value)} {st : List Value} {g : zP β}
/-- a byte into an array of bytes; a boolean into an array of booleans -/
def z_sB (a : Nat) (i v : Int32) : zP Unit := z_gd (z_in 10 a i) (z_st (fun M => ((), z_wi M a i.toNatClampNeg v.toInt8.toInt32)) z_le.rf)
def z_sZ (a : Nat) (i v : Int32) : zP Unit := z_gd (fun M => z_in 12 a i M ∧ (v = 0 ∨ v = 1)) (z_st (fun M => ((), z_wi M a i.toNatClampNeg v)) z_le.rf)
/-- a reference that isn't null, out of an array -/
def z_aA (c a : Nat) (i : Int32) : zP Nat := z_bd (z_aR c a i) (fun r => z_nn r z_pu)
theorem z_inW {c a : Nat} {i : Int32} {M : zM} (h : z_in c a i M) (cA : ClassId) (V : Nat → Value) : ¬ (i < 0 ∨ (arrV cA (z_ln M a) V).slots.size ≤ i.toNatClampNeg) := by
  rw [arrV_size]
  intro q
  rcases q with q | q
  · exact h.2.2.1 q
  · exact Nat.not_le.mpr h.2.2.2 q
theorem r_iald (C : z_Ok X y cc nL rt fr lo) {a : Nat} {i : Int32} {kk : Int32 → zP β} (hd : decode cc pc = .ok (.iaload, 1)) (h : ∀ v, z_Sim X nL K (pc + 1) lv (.int v :: st) (kk v)) : z_Sim X nL K pc lv (.int i :: .ref (x_b X + a) :: st) (z_bd (z_aI 11 a i) kk) := by
  intro M H locs ls r M1 hI hL h0 hl hp hK hF
  obtain ⟨hc, hp⟩ := z_gs_inv hp
  exact W.iald (v := .int (z_i M a i.toNatClampNeg)) C.1 C.2.1 (z_Inv.arr hI (by decide) ⟨hc.1, hc.2.1⟩) ((C.aty (c := 11) rfl).1 _ _) (fun q => by cases q) (z_inW hc _ _) (by rw [arrV_read _ _ hc.2.2.2]; rfl) rfl rfl hd (h _ M H locs ls r M1 hI hL h0 hl hp hK hF)
theorem r_bald (C : z_Ok X y cc nL rt fr lo) {a : Nat} {i : Int32} {kk : Int32 → zP β} (hd : decode cc pc = .ok (.baload, 1)) (h : ∀ v, z_Sim X nL K (pc + 1) lv (.int v :: st) (kk v)) : z_Sim X nL K pc lv (.int i :: .ref (x_b X + a) :: st) (z_bd (z_aI 10 a i) kk) := by
  intro M H locs ls r M1 hI hL h0 hl hp hK hF
  obtain ⟨hc, hp⟩ := z_gs_inv hp
  exact W.bald (v := .int (z_i M a i.toNatClampNeg)) C.1 C.2.1 (z_Inv.arr hI (by decide) ⟨hc.1, hc.2.1⟩) ((C.aty (c := 10) rfl).1 _ _) (fun q => by cases q) (z_inW hc _ _) (by rw [arrV_read _ _ hc.2.2.2]; rfl) rfl rfl hd (h _ M H locs ls r M1 hI hL h0 hl hp hK hF)
theorem r_zald (C : z_Ok X y cc nL rt fr lo) {a : Nat} {i : Int32} {kk : Int32 → zP β} (hd : decode cc pc = .ok (.baload, 1)) (h : ∀ v, z_Sim X nL K (pc + 1) lv (.int v :: st) (kk v)) : z_Sim X nL K pc lv (.int i :: .ref (x_b X + a) :: st) (z_bd (z_aI 12 a i) kk) := by
  intro M H locs ls r M1 hI hL h0 hl hp hK hF
  obtain ⟨hc, hp⟩ := z_gs_inv hp
  exact W.zald (v := .int (z_i M a i.toNatClampNeg)) C.1 C.2.1 (z_Inv.arr hI (by decide) ⟨hc.1, hc.2.1⟩) ((C.aty (c := 12) rfl).1 _ _) (fun q => by cases q) (z_inW hc _ _) (by rw [arrV_read _ _ hc.2.2.2]; rfl) rfl rfl hd (h _ M H locs ls r M1 hI hL h0 hl hp hK hF)
theorem r_lald (C : z_Ok X y cc nL rt fr lo) {a : Nat} {i : Int32} {kk : Int64 → zP β} (hd : decode cc pc = .ok (.laload, 1)) (h : ∀ v, z_Sim X nL K (pc + 1) lv (.long v :: st) (kk v)) : z_Sim X nL K pc lv (.int i :: .ref (x_b X + a) :: st) (z_bd (z_aJ 15 a i) kk) := by
  intro M H locs ls r M1 hI hL h0 hl hp hK hF
  obtain ⟨hc, hp⟩ := z_gs_inv hp
  exact W.lald (v := .long (z_j M a i.toNatClampNeg)) C.1 C.2.1 (z_Inv.arr hI (by decide) ⟨hc.1, hc.2.1⟩) ((C.aty (c := 15) rfl).1 _ _) (fun q => by cases q) (z_inW hc _ _) (by rw [arrV_read _ _ hc.2.2.2]; rfl) rfl rfl hd (h _ M H locs ls r M1 hI hL h0 hl hp hK hF)
theorem z_aaldW (C : z_Ok X y cc nL rt fr lo) {c a : Nat} {i : Int32} {M : zM} {H : Heap} {locs : List Loc} {ls : Array Slot} (hcc : c = 13 ∨ c = 14) (hd : decode cc pc = .ok (.aaload, 1)) (hI : x_Inv X M H) (hc : z_in c a i M) (kk : z_W X (pc + 1) ls (z_rv (x_b X) (z_r M a i.toNatClampNeg) :: st) H locs M) : z_W X pc ls (.int i :: .ref (x_b X + a) :: st) H locs M := by
  rcases hcc with rfl | rfl
  · exact W.aald (v := z_rv (x_b X) (z_r M a i.toNatClampNeg)) (ty := .object RX5) C.1 C.2.1 (z_Inv.arr hI (by decide) ⟨hc.1, hc.2.1⟩) ((C.aty (c := 13) rfl).1 _ _) rfl (fun q => by cases q) (z_inW hc _ _) (by rw [arrV_read _ _ hc.2.2.2]; rfl) rfl rfl hd kk
  · exact W.aald (v := z_rv (x_b X) (z_r M a i.toNatClampNeg)) (ty := .object RX7) C.1 C.2.1 (z_Inv.arr hI (by decide) ⟨hc.1, hc.2.1⟩) ((C.aty (c := 14) rfl).1 _ _) rfl (fun q => by cases q) (z_inW hc _ _) (by rw [arrV_read _ _ hc.2.2.2]; rfl) rfl rfl hd kk
theorem r_aald (C : z_Ok X y cc nL rt fr lo) {c a : Nat} {i : Int32} {kk : Nat → zP β} (hcc : c = 13 ∨ c = 14) (hd : decode cc pc = .ok (.aaload, 1)) (h : ∀ v : Nat, z_Sim X nL K (pc + 1) lv (.ref (x_b X + v) :: st) (kk v)) : z_Sim X nL K pc lv (.int i :: .ref (x_b X + a) :: st) (z_bd (z_aA c a i) kk) := by
  intro M H locs ls r M1 hI hL h0 hl hp hK hF
  rcases z_bd_inv hp with ⟨v, M2, h1, h2⟩ | ⟨E, h1, -⟩
  · obtain ⟨hc, h3⟩ := z_gs_inv h1
    refine z_aaldW C hcc hd hI hc ?_
    dsimp only at h3
    cases hv : z_r M a i.toNatClampNeg with
    | none => rw [hv] at h3; cases h3
    | some q =>
      rw [hv] at h3
      cases h3
      exact h _ M H locs ls r M1 hI hL h0 hl h2 hK hF
  · obtain ⟨hc, h3⟩ := z_gs_inv h1
    dsimp only at h3
    cases hv : z_r M a i.toNatClampNeg with
    | none => rw [hv] at h3; cases h3
    | some q => rw [hv] at h3; cases h3
/-- an element that is tested for null at once: aaload, ifnonnull -/
theorem r_aaldN (C : z_Ok X y cc nL rt fr lo) {c a tgt : Nat} {i : Int32} {off : Int} {g1 g2 : zP β} (hcc : c = 13 ∨ c = 14) (hd : decode cc pc = .ok (.aaload, 1)) (hd2 : decode cc (pc + 1) = .ok (.ifnonnull off, 3)) (ht : ((pc + 1 : Nat) : Int) + off = (tgt : Int)) (h1 : z_Sim X nL K (pc + 4) lv st g1) (h2 : z_Sim X nL K tgt lv st g2) : z_Sim X nL K pc lv (.int i :: .ref (x_b X + a) :: st) (z_bd (z_aR c a i) (fun r => if r = none then g1 else g2)) := by
  intro M H locs ls r M1 hI hL h0 hl hp hK hF
  obtain ⟨hc, hp⟩ := z_gs_inv hp
  refine z_aaldW C hcc hd hI hc ?_
  dsimp only at hp
  cases hv : z_r M a i.toNatClampNeg with
  | none =>
    rw [hv, if_pos rfl] at hp
    exact lv_ifnonnullN C.1 C.2.1 hd2 (h1 M H locs ls r M1 hI hL h0 hl hp hK hF)
  | some q =>
    rw [hv, if_neg (fun e => by cases e)] at hp
    exact lv_ifnonnull C.1 C.2.1 hd2 ht (h2 M H locs ls r M1 hI hL h0 hl hp hK hF)
/-- ifnonnull of what isn't null -/
theorem r_ifnonnull (C : z_Ok X y cc nL rt fr lo) {a tgt : Nat} {off : Int} (hd : decode cc pc = .ok (.ifnonnull off, 3)) (ht : (pc : Int) + off = (tgt : Int)) (h : z_Sim X nL K tgt lv st g) : z_Sim X nL K pc lv (.ref a :: st) g := fun M H locs ls r M1 hI hL h0 hl hp hK hF => lv_ifnonnull C.1 C.2.1 hd ht (h M H locs ls r M1 hI hL h0 hl hp hK hF)
theorem r_alen (C : z_Ok X y cc nL rt fr lo) {c a : Nat} {kk : Int32 → zP β} (hc16 : 10 ≤ c ∧ c < 16) (hd : decode cc pc = .ok (.arraylength, 1)) (h : ∀ v, z_Sim X nL K (pc + 1) lv (.int v :: st) (kk v)) : z_Sim X nL K pc lv (.ref (x_b X + a) :: st) (z_bd (z_al c a) kk) := by
  intro M H locs ls r M1 hI hL h0 hl hp hK hF
  obtain ⟨hc, hp⟩ := z_gs_inv hp
  have hty : ∃ ty, ArrOfT (x_s X) ((x_D X).2.2.1 c) ty := by
    rcases (show c = 10 ∨ c = 11 ∨ c = 12 ∨ c = 13 ∨ c = 14 ∨ c = 15 by omega) with rfl | rfl | rfl | rfl | rfl | rfl <;> exact ⟨_, (C.aty rfl).1⟩
  obtain ⟨ty, hty⟩ := hty
  exact W.alen (n := nI (z_ln M a)) C.1 C.2.1 (z_Inv.arr hI hc16 hc) (hty _ _) (by rw [arrV_size]; rfl) rfl rfl hd (h _ M H locs ls r M1 hI hL h0 hl hp hK hF)
theorem z_ev_wi {b : Nat} {M : zM} {c a k : Nat} {v : Int32} (hr : ¬ (c = 13 ∨ c = 14)) (hj : ¬ c = 15) : updV (z_ev b M c a) k (.int v) = z_ev b (z_wi M a k v) c a := by
  funext j
  unfold updV z_ev
  rw [show z_i (z_wi M a k v) = z_up2 (z_i M) a k v from rfl, z_up2_at, if_neg hr, if_neg hj, if_neg hr, if_neg hj]
  by_cases h : j = k
  · rw [if_pos h, if_pos h]
  · rw [if_neg h, if_neg h]
theorem z_ev_wj {b : Nat} {M : zM} {a k : Nat} {v : Int64} : updV (z_ev b M 15 a) k (.long v) = z_ev b (z_wj M a k v) 15 a := by
  funext j
  have h13 : ¬ ((15 : Nat) = 13 ∨ (15 : Nat) = 14) := by decide
  have h15 : (15 : Nat) = 15 := rfl
  unfold updV z_ev
  rw [show z_j (z_wj M a k v) = z_up2 (z_j M) a k v from rfl, z_up2_at, if_neg h13, if_pos h15, if_neg h13, if_pos h15]
  by_cases h : j = k
  · rw [if_pos h, if_pos h]
  · rw [if_neg h, if_neg h]
theorem z_ev_wr {b : Nat} {M : zM} {c a k : Nat} {v : Option Nat} (hr : c = 13 ∨ c = 14) : updV (z_ev b M c a) k (z_rv b v) = z_ev b (z_wr M a k v) c a := by
  funext j
  unfold updV z_ev
  rw [show z_r (z_wr M a k v) = z_up2 (z_r M) a k v from rfl, z_up2_at, if_pos hr, if_pos hr]
  by_cases h : j = k
  · rw [if_pos h, if_pos h]
  · rw [if_neg h, if_neg h]
/-- an element written: the memory behind it -/
theorem z_astI {D : zD} {b : Nat} {Z : Heap} {M M' : zM} {H H' : Heap} {c a k : Nat} {v : Value} (hI : z_Inv D b Z M H) (hcc : 10 ≤ c ∧ c < 16) (ha : z_is c a M) (e1 : H'[b + a]? = some ((arrV (D.2.2.1 c) (z_ln M a) (z_ev b M c a)).setSlot k v)) (e2 : H'.size = H.size) (e3 : ∀ q, q ≠ b + a → H'[q]? = H[q]?)
    (hnx : z_nx M' = z_nx M) (hkd : z_kd M' = z_kd M) (hln : z_ln M' = z_ln M) (hi : ∀ x, x ≠ a → z_i M' x = z_i M x) (hr : ∀ x, x ≠ a → z_r M' x = z_r M x) (hj : ∀ x, x ≠ a → z_j M' x = z_j M x) (hv : updV (z_ev b M c a) k v = z_ev b M' c a) : z_Inv D b Z M' H' := by
  refine z_Inv.set hI hnx e2 e3 hkd hln hi hr hj ?_
  unfold z_at
  rw [hkd, ha.2, if_neg (Nat.not_lt.mpr hcc.1), if_pos hcc.2, e1, arrV_store, hln]
  have hv' : (fun j => z_ev b M' c a j) = updV (z_ev b M c a) k v := hv.symm
  rw [hv']
theorem z_locs {b a k : Nat} {locs : List Loc} (hL : ∀ q ∈ locs, b ≤ q.base) : ∀ q ∈ locs ++ [⟨b + a, k⟩], b ≤ q.base := by
  intro q hq
  rcases List.mem_append.mp hq with h1 | h1
  · exact hL q h1
  · rw [List.mem_singleton.mp h1]; exact Nat.le_add_right _ _
theorem r_iast (C : z_Ok X y cc nL rt fr lo) {a : Nat} {i v : Int32} {kk : Unit → zP β} (hd : decode cc pc = .ok (.iastore, 1)) (h : z_Sim X nL K (pc + 1) lv st (kk ())) : z_Sim X nL K pc lv (.int v :: .int i :: .ref (x_b X + a) :: st) (z_bd (z_sI 11 a i v) kk) := by
  intro M H locs ls r M1 hI hL h0 hl hp hK hF
  obtain ⟨hc, hp⟩ := z_gs_inv hp
  refine W.iast C.1 C.2.1 (z_Inv.arr hI (by decide) ⟨hc.1, hc.2.1⟩) ((C.aty (c := 11) rfl).1 _ _) (fun q => by cases q) (z_inW hc _ _) rfl rfl hd fun H' e1 e2 e3 => ?_
  exact h (z_wi M a i.toNatClampNeg v) H' _ ls r M1 (z_astI (c := 11) (M' := z_wi M a i.toNatClampNeg v) hI (by decide) ⟨hc.1, hc.2.1⟩ e1 e2 e3 rfl rfl rfl (fun x hx => z_up2_ne hx) (fun _ _ => rfl) (fun _ _ => rfl) (z_ev_wi (by decide) (by decide))) (z_locs hL) h0 hl hp hK hF
theorem r_bast (C : z_Ok X y cc nL rt fr lo) {a : Nat} {i v : Int32} {kk : Unit → zP β} (hd : decode cc pc = .ok (.bastore, 1)) (h : z_Sim X nL K (pc + 1) lv st (kk ())) : z_Sim X nL K pc lv (.int v :: .int i :: .ref (x_b X + a) :: st) (z_bd (z_sB a i v) kk) := by
  intro M H locs ls r M1 hI hL h0 hl hp hK hF
  obtain ⟨hc, hp⟩ := z_gs_inv hp
  refine W.bast C.1 C.2.1 (z_Inv.arr hI (by decide) ⟨hc.1, hc.2.1⟩) ((C.aty (c := 10) rfl).1 _ _) (fun q => by cases q) (z_inW hc _ _) rfl rfl hd fun H' e1 e2 e3 => ?_
  exact h (z_wi M a i.toNatClampNeg v.toInt8.toInt32) H' _ ls r M1 (z_astI (c := 10) (M' := z_wi M a i.toNatClampNeg v.toInt8.toInt32) hI (by decide) ⟨hc.1, hc.2.1⟩ e1 e2 e3 rfl rfl rfl (fun x hx => z_up2_ne hx) (fun _ _ => rfl) (fun _ _ => rfl) (z_ev_wi (by decide) (by decide))) (z_locs hL) h0 hl hp hK hF
theorem r_zast (C : z_Ok X y cc nL rt fr lo) {a : Nat} {i v : Int32} {kk : Unit → zP β} (hd : decode cc pc = .ok (.bastore, 1)) (h : z_Sim X nL K (pc + 1) lv st (kk ())) : z_Sim X nL K pc lv (.int v :: .int i :: .ref (x_b X + a) :: st) (z_bd (z_sZ a i v) kk) := by
  intro M H locs ls r M1 hI hL h0 hl hp hK hF
  obtain ⟨⟨hc, hv⟩, hp⟩ := z_gs_inv hp
  refine W.zast C.1 C.2.1 (z_Inv.arr hI (by decide) ⟨hc.1, hc.2.1⟩) ((C.aty (c := 12) rfl).1 _ _) (fun q => by cases q) (z_inW hc _ _) rfl rfl hd fun H' e1 e2 e3 => ?_
  have hn : v &&& 1 = v := by rcases hv with rfl | rfl <;> rfl
  exact h (z_wi M a i.toNatClampNeg v) H' _ ls r M1 (z_astI (c := 12) (M' := z_wi M a i.toNatClampNeg v) hI (by decide) ⟨hc.1, hc.2.1⟩ e1 e2 e3 rfl rfl rfl (fun x hx => z_up2_ne hx) (fun _ _ => rfl) (fun _ _ => rfl) (by show updV _ _ (.int (v &&& 1)) = _; rw [hn]; exact z_ev_wi (by decide) (by decide))) (z_locs hL) h0 hl hp hK hF
theorem r_last (C : z_Ok X y cc nL rt fr lo) {a : Nat} {i : Int32} {v : Int64} {kk : Unit → zP β} (hd : decode cc pc = .ok (.lastore, 1)) (h : z_Sim X nL K (pc + 1) lv st (kk ())) : z_Sim X nL K pc lv (.long v :: .int i :: .ref (x_b X + a) :: st) (z_bd (z_sJ 15 a i v) kk) := by
  intro M H locs ls r M1 hI hL h0 hl hp hK hF
  obtain ⟨hc, hp⟩ := z_gs_inv hp
  refine W.last C.1 C.2.1 (z_Inv.arr hI (by decide) ⟨hc.1, hc.2.1⟩) ((C.aty (c := 15) rfl).1 _ _) (fun q => by cases q) (z_inW hc _ _) rfl rfl hd fun H' e1 e2 e3 => ?_
  exact h (z_wj M a i.toNatClampNeg v) H' _ ls r M1 (z_astI (c := 15) (M' := z_wj M a i.toNatClampNeg v) hI (by decide) ⟨hc.1, hc.2.1⟩ e1 e2 e3 rfl rfl rfl (fun _ _ => rfl) (fun _ _ => rfl) (fun x hx => z_up2_ne hx) z_ev_wj) (z_locs hL) h0 hl hp hK hF
theorem r_aast (C : z_Ok X y cc nL rt fr lo) {c e a v : Nat} {i : Int32} {kk : Unit → zP β} (hce : (c = 13 ∧ e = 5) ∨ (c = 14 ∧ e = 7)) (hcl : ∃ Cn T N, z_Cl e Cn T N) (hd : decode cc pc = .ok (.aastore, 1)) (h : z_Sim X nL K (pc + 1) lv st (kk ())) : z_Sim X nL K pc lv (.ref (x_b X + v) :: .int i :: .ref (x_b X + a) :: st) (z_bd (z_sR c e a i v) kk) := by
  intro M H locs ls r M1 hI hL h0 hl hp hK hF
  obtain ⟨⟨hc, hv⟩, hp⟩ := z_gs_inv hp
  obtain ⟨Cn, T, N, hC⟩ := hcl
  obtain ⟨cellV, g1, g2, g3, -⟩ := z_Inv.obj hI hC hv
  have hcls := (C.kn.1 e _ hC.2.1).2
  have hk2 : ∃ (kA : Class) (comp : ClassId) (t : FieldType), (x_s X).vm.classes[(x_D X).2.2.1 c]? = some kA ∧ kA.kind = .array comp t ∧ t.isReference = true ∧ comp = (x_D X).1 e := by
    rcases hce with ⟨rfl, rfl⟩ | ⟨rfl, rfl⟩
    · obtain ⟨kA, comp, k1, k2, k3, -⟩ := (C.aty (c := 13) (ty := .object RX5) rfl).2
      have hcn : Cn = RX5 := congrArg Prod.fst (Option.some.inj (hC.2.1.symm.trans (show vwCl[5]? = some (RX5, TX5, 13) from rfl)))
      subst hcn
      exact ⟨kA, comp, _, k1, k2, rfl, Option.some.inj (k3.symm.trans hcls.1)⟩
    · obtain ⟨kA, comp, k1, k2, k3, -⟩ := (C.aty (c := 14) (ty := .object RX7) rfl).2
      have hcn : Cn = RX7 := congrArg Prod.fst (Option.some.inj (hC.2.1.symm.trans (show vwCl[7]? = some (RX7, TX7, 8) from rfl)))
      subst hcn
      exact ⟨kA, comp, _, k1, k2, rfl, Option.some.inj (k3.symm.trans hcls.1)⟩
  have h16 : (10 ≤ c ∧ c < 16) ∧ (c = 13 ∨ c = 14) := by rcases hce with ⟨rfl, -⟩ | ⟨rfl, -⟩ <;> decide
  obtain ⟨kA, comp, t, k1, k2, k3, rfl⟩ := hk2
  obtain ⟨kC, hkC, -⟩ := hcls.2
  refine W.aast C.1 C.2.1 (z_Inv.arr hI h16.1 ⟨hc.1, hc.2.1⟩) (fun q h => by cases h) (fun h => by cases h) k1 k2 k3 hkC ⟨hc.2.2.1, by rw [arrV_size]; exact hc.2.2.2⟩ g1 (fun q h => by rw [g3] at h; cases h) (by rw [g2]; exact hkC) (by rw [g2]; exact va_assign hcls) rfl rfl hd fun H' e1 e2 e3 => ?_
  exact h (z_wr M a i.toNatClampNeg (some v)) H' _ ls r M1 (z_astI (c := c) (M' := z_wr M a i.toNatClampNeg (some v)) (v := z_rv (x_b X) (some v)) hI h16.1 ⟨hc.1, hc.2.1⟩ e1 e2 e3 rfl rfl rfl (fun _ _ => rfl) (fun x hx => z_up2_ne hx) (fun _ _ => rfl) (z_ev_wr h16.2)) (z_locs hL) h0 hl hp hK hF
end ZA
