/-! ===== rows: new cells, library calls, throws ===== -/
/-- a boolean's test, ahead of its return -/
def z_zg {β : Type} (v : Int32) (p : zP β) : zP β := if v = 0 ∨ v = 1 then p else z_fl
section ZN
variable {β : Type} {X : zX} {y : MethodName} {cc : ByteArray} {nL : Nat} {rt : Option FieldType} {fr lo : Nat} {K : String ⊕ β → zM → Prop} {pc : Nat} {lv : List (Nat × Value)} {st : List Value} {g : zP β}
theorem r_zg {v : Int32} (h : (v = 0 ∨ v = 1) → z_Sim X nL K pc lv st g) : z_Sim X nL K pc lv st (z_zg v g) := by
  unfold z_zg
  exact r_ite h (fun _ => r_fl)
theorem r_zret1 (C : z_Ok X y cc nL (some .boolean) fr lo) {v : Int32} (hd : decode cc pc = .ok (.ireturn, 1)) (hv : v = 0 ∨ v = 1) : z_Sim X nL (z_K0 X z_ivI) pc lv [.int v] (z_pu v) := by
  have h := r_zret (lv := lv) C (v := v) hd
  unfold z_rz at h
  rw [if_pos hv] at h
  exact h
theorem z_room {M M' M1 : zM} (h0 : z_le (x_M0 X) M) (h1 : z_le M M') (h2 : z_le M' M1) (hF : z_le M1 (x_MF X)) : (z_nx M - z_nx (x_M0 X)) + (z_nx M' - z_nx M) ≤ z_nx (x_MF X) - z_nx (x_M0 X) ∧ (z_sl M - z_sl (x_M0 X)) + (z_sl M' - z_sl M) ≤ z_sl (x_MF X) - z_sl (x_M0 X) ∧ (z_nx M - z_nx (x_M0 X)) + (z_nx M' - z_nx M) = z_nx M' - z_nx (x_M0 X) ∧ (z_sl M - z_sl (x_M0 X)) + (z_sl M' - z_sl M) = z_sl M' - z_sl (x_M0 X) := by
  obtain ⟨a1, a2⟩ := h0
  obtain ⟨b1, b2⟩ := h1
  obtain ⟨c1, c2⟩ := h2
  obtain ⟨d1, d2⟩ := hF
  omega
theorem z_mk_room {k n w : Nat} {M : zM} : z_nx (z_mk M k n w) - z_nx M = 1 ∧ z_sl (z_mk M k n w) - z_sl M = w := by
  have h1 : z_nx (z_mk M k n w) = z_nx M + 1 := rfl
  have h2 : z_sl (z_mk M k n w) = z_sl M + w := rfl
  omega
theorem z_mk_le {k n w : Nat} {M : zM} : z_le M (z_mk M k n w) := ⟨Nat.le_succ _, Nat.le_add_right _ _⟩
/-- fields' values at birth -/
def z_born (c N : Nat) : Prop := ∀ k, k < N → defaultValue (z_ft c k) = if z_isr (z_ft c k) = true then Value.null else Value.int 0
theorem r_new (C : z_Ok X y cc nL rt fr lo) {c N idx : Nat} {Cn : String} {T : u_T} {kk : Nat → zP β} (hd : decode cc pc = .ok (.new idx, 3)) (hC : z_Cl c Cn T N) (hb : z_born c N) (hlk : Cond.classLink y.cls idx Cn ∈ XT) (hins : Cond.instantiable Cn N ∈ XT) (hini : Cond.initialized Cn ∈ XT)
    (h : ∀ q : Nat, z_Sim X nL K (pc + 3) lv (.ref (x_b X + q) :: st) (kk q)) : z_Sim X nL K pc lv st (z_bd (z_nw c N) kk) := by
  intro M H locs ls r M1 hI hL h0 hl hp hK hF
  have hp := z_st_inv hp
  dsimp only at hp
  have hm : z_le (z_mk M c 0 N) M1 := (kk _).2 _ _ _ hp
  obtain ⟨r1, r2, r3, r4⟩ := z_room h0 (z_mk_le (k := c) (n := 0) (w := N)) hm hF
  rw [z_mk_room.1] at r1 r3
  rw [z_mk_room.2] at r2 r4
  have hKn := C.kn.1 c _ hC.2.1
  refine W.newcK C.1 C.2.1 C.own (C.ws _ hlk) (C.ws _ hins) (C.ws _ hini) rfl hd (Nat.le_trans r1 C.2.2.2.2.2.2.2.2.2.2.1) (Nat.le_trans r2 C.2.2.2.2.2.2.2.2.2.2.2.1) hKn.2.1 hI.1 fun H1 kC hkC e1 z1 o1 => ?_
  rw [r3, r4]
  refine h (z_nx M) (z_mk M c 0 N) H1 locs ls r M1 ?_ hL (h0.tr z_mk_le) hl hp hK hF
  refine z_Inv.push hI (by rw [z1, hI.1]) (fun q hq => o1 q (by rw [← hI.1]; exact hq)) ?_
  unfold z_at
  have hk0 : z_kd (z_mk M c 0 N) (z_nx M) = c := if_pos rfl
  rw [hk0, if_pos hC.1, hC.n]
  refine (u_born (z_ft c) C.ws hC.2.2.1 hKn hkC e1 hC.2.2.2.1).to (fun k hk => ?_)
  rw [hb k hk]
  unfold z_fv
  rw [show z_r (z_mk M c 0 N) (z_nx M) = (fun _ => none) from if_pos rfl, show z_i (z_mk M c 0 N) (z_nx M) = (fun _ => 0) from if_pos rfl]
/-- which kind of array a newarray makes -/
def z_at9 (c : Nat) : ArrayType := match c with
  | 10 => .byte
  | 11 => .int
  | 12 => .boolean
  | _ => .long
theorem r_newa (C : z_Ok X y cc nL rt fr lo) {c : Nat} {n : Int32} {kk : Nat → zP β} (hc : c = 10 ∨ c = 11 ∨ c = 12 ∨ c = 15) (hd : decode cc pc = .ok (.newarray (z_at9 c), 2)) (harr : Cond.arrayClass (newarray.typeOf (z_at9 c)) ∈ XT)
    (h : ∀ q : Nat, z_Sim X nL K (pc + 2) lv (.ref (x_b X + q) :: st) (kk q)) : z_Sim X nL K pc lv (.int n :: st) (z_bd (z_na c n) kk) := by
  intro M H locs ls r M1 hI hL h0 hl hp hK hF
  obtain ⟨⟨hn, hb⟩, hp⟩ := z_gs_inv hp
  dsimp only at hp
  have hm : z_le (z_mk M c n.toNatClampNeg n.toNatClampNeg) M1 := (kk _).2 _ _ _ hp
  obtain ⟨r1, r2, r3, r4⟩ := z_room h0 (z_mk_le (k := c) (n := n.toNatClampNeg) (w := n.toNatClampNeg)) hm hF
  rw [z_mk_room.1] at r1 r3
  rw [z_mk_room.2] at r2 r4
  have hcomp : componentBytes (newarray.typeOf (z_at9 c)) ≤ 8 := by rcases hc with rfl | rfl | rfl | rfl <;> decide
  refine va_newaK C.1 C.2.1 (C.ws _ harr) rfl hd rfl hn rfl (Nat.le_trans (Nat.mul_le_mul hb hcomp) (by decide)) (Nat.le_trans r1 C.2.2.2.2.2.2.2.2.2.2.1) (Nat.le_trans r2 C.2.2.2.2.2.2.2.2.2.2.2.1) hI.1 fun H1 cA e1 z1 o1 hAr hNm => ?_
  rw [r3, r4]
  refine h (z_nx M) (z_mk M c n.toNatClampNeg n.toNatClampNeg) H1 locs ls r M1 ?_ hL (h0.tr z_mk_le) hl hp hK hF
  refine z_Inv.push hI (by rw [z1, hI.1]) (fun q hq => o1 q (by rw [← hI.1]; exact hq)) ?_
  unfold z_at
  have hk0 : z_kd (z_mk M c n.toNatClampNeg n.toNatClampNeg) (z_nx M) = c := if_pos rfl
  have hl0 : z_ln (z_mk M c n.toNatClampNeg n.toNatClampNeg) (z_nx M) = n.toNatClampNeg := if_pos rfl
  have hcA : cA = (x_D X).2.2.1 c := by
    rcases hc with rfl | rfl | rfl | rfl
    · exact Option.some.inj (hNm.symm.trans (C.aty (c := 10) (ty := .byte) rfl).2)
    · exact Option.some.inj (hNm.symm.trans (C.aty (c := 11) (ty := .int) rfl).2)
    · exact Option.some.inj (hNm.symm.trans (C.aty (c := 12) (ty := .boolean) rfl).2)
    · exact Option.some.inj (hNm.symm.trans (C.aty (c := 15) (ty := .long) rfl).2)
  rw [hk0, if_neg (by rcases hc with rfl | rfl | rfl | rfl <;> decide), if_pos (by rcases hc with rfl | rfl | rfl | rfl <;> decide), e1, hl0, hcA]
  congr 2
  funext j
  unfold z_ev
  rw [show z_i (z_mk M c n.toNatClampNeg n.toNatClampNeg) (z_nx M) = (fun _ => 0) from if_pos rfl, show z_j (z_mk M c n.toNatClampNeg n.toNatClampNeg) (z_nx M) = (fun _ => 0) from if_pos rfl]
  rcases hc with rfl | rfl | rfl | rfl <;> rfl
theorem r_anewa (C : z_Ok X y cc nL rt fr lo) {c idx : Nat} {Cn : String} {n : Int32} {kk : Nat → zP β} (hc : (c = 13 ∧ Cn = RX5) ∨ (c = 14 ∧ Cn = RX7)) (hd : decode cc pc = .ok (.anewarray idx, 3)) (hlk : Cond.classLink y.cls idx Cn ∈ XT)
    (h : ∀ q : Nat, z_Sim X nL K (pc + 3) lv (.ref (x_b X + q) :: st) (kk q)) : z_Sim X nL K pc lv (.int n :: st) (z_bd (z_na c n) kk) := by
  intro M H locs ls r M1 hI hL h0 hl hp hK hF
  obtain ⟨⟨hn, hb⟩, hp⟩ := z_gs_inv hp
  dsimp only at hp
  have hm : z_le (z_mk M c n.toNatClampNeg n.toNatClampNeg) M1 := (kk _).2 _ _ _ hp
  obtain ⟨r1, r2, r3, r4⟩ := z_room h0 (z_mk_le (k := c) (n := n.toNatClampNeg) (w := n.toNatClampNeg)) hm hF
  rw [z_mk_room.1] at r1 r3
  rw [z_mk_room.2] at r2 r4
  have hao : va_AO Cn (x_s X) := by
    rcases hc with ⟨rfl, rfl⟩ | ⟨rfl, rfl⟩
    · exact C.G.2.2.2.2.2.1
    · exact C.G.2.2.2.2.2.2.1
  refine W.anew C.1 C.2.1 C.own (C.ws _ hlk) (va_AO.use hao) rfl hd rfl hn (by omega) (Nat.le_trans r1 C.2.2.2.2.2.2.2.2.2.2.1) (Nat.le_trans r2 C.2.2.2.2.2.2.2.2.2.2.2.1) fun cA kA comp f1 f2 f3 f4 => ?_
  rw [r3, r4, hI.1]
  generalize hH1 : H.push ({ cls := cA, slots := Array.replicate n.toNatClampNeg .null, vm := .none } : Cell) = H1
  refine h (z_nx M) (z_mk M c n.toNatClampNeg n.toNatClampNeg) H1 locs ls r M1 ?_ hL (h0.tr z_mk_le) hl hp hK hF
  have z1 : H1.size = H.size + 1 := by rw [← hH1, Array.size_push]
  have e1 : H1[x_b X + z_nx M]? = some (arrV cA n.toNatClampNeg (fun _ => .null)) := by rw [← hH1, ← hI.1, Array.getElem?_push_size, ← arrV_new]
  have o1 : ∀ q : Nat, q < H.size → H1[q]? = H[q]? := fun q hq => by rw [← hH1, Array.getElem?_push, if_neg (Nat.ne_of_lt hq)]
  refine z_Inv.push hI z1 o1 ?_
  unfold z_at
  have hk0 : z_kd (z_mk M c n.toNatClampNeg n.toNatClampNeg) (z_nx M) = c := if_pos rfl
  have hl0 : z_ln (z_mk M c n.toNatClampNeg n.toNatClampNeg) (z_nx M) = n.toNatClampNeg := if_pos rfl
  have hcA : cA = (x_D X).2.2.1 c := by
    rcases hc with ⟨rfl, rfl⟩ | ⟨rfl, rfl⟩
    · obtain ⟨_, _, _, _, _, h4⟩ := (C.aty (c := 13) (ty := .object RX5) rfl).2
      exact Option.some.inj (f1.symm.trans h4)
    · obtain ⟨_, _, _, _, _, h4⟩ := (C.aty (c := 14) (ty := .object RX7) rfl).2
      exact Option.some.inj (f1.symm.trans h4)
  have hc3 : c = 13 ∨ c = 14 := by rcases hc with ⟨h, -⟩ | ⟨h, -⟩ <;> simp [h]
  rw [hk0, if_neg (by omega), if_pos (by omega), e1, hl0, hcA]
  congr 2
  funext j
  unfold z_ev
  rw [if_pos hc3, show z_r (z_mk M c n.toNatClampNeg n.toNatClampNeg) (z_nx M) = (fun _ => none) from if_pos rfl]
theorem r_objInit (C : z_Ok X y cc nL rt fr lo) {idx a : Nat} (hd : decode cc pc = .ok (.invokespecial idx, 3)) (hlk : Cond.methodLink y.cls idx objectInit ∈ XT) (hin : Cond.instanceMethod objectInit ∈ XT) (hcd : Cond.code objectInit ⟨#[0xb1]⟩ 1 none ∈ XT) (hfr : 1 ≤ fr) (hlo : (st.map fun v => v.category).sum + 12 ≤ lo) (h : z_Sim X nL K (pc + 3) lv st g) : z_Sim X nL K pc lv (.ref a :: st) g := by
  intro M H locs ls r M1 hI hL h0 hl hp hK hF
  exact W.objInit C.1 C.2.1 C.own (C.ws _ hlk) (C.ws _ hin) (C.ws _ hcd) rfl (by rw [C.2.2.1]; exact hl.1) rfl hd (by rw [C.2.2.2.2.2.2.2.2.1]; exact hfr) (by rw [C.2.2.2.2.2.2.2.2.2.1]; show 2 * 0 + _ + 12 ≤ lo; omega) (h M H locs ls r M1 hI hL h0 hl hp hK hF)
theorem z_nxR (C : z_Ok X y cc nL rt fr lo) {M M1 : zM} (h0 : z_le (x_M0 X) M) (hm : z_le M M1) (hF : z_le M1 (x_MF X)) : z_nx M - z_nx (x_M0 X) ≤ (x_R X).cells ∧ z_sl M - z_sl (x_M0 X) ≤ (x_R X).slots := by
  have u1 := C.2.2.2.2.2.2.2.2.2.2.1
  have u2 := C.2.2.2.2.2.2.2.2.2.2.2.1
  obtain ⟨a1, a2⟩ := hm
  obtain ⟨b1, b2⟩ := hF
  omega
theorem r_max (C : z_Ok X y cc nL rt fr lo) {idx : Nat} {v w : Int32} (hd : decode cc pc = .ok (.invokestatic idx, 3)) (hlk : Cond.methodLink y.cls idx Lib.Math.max.name ∈ XT) (hst : Cond.static Lib.Math.max.name ∈ XT) (hini : Cond.initialized "java/lang/Math" ∈ XT) (hcd : Cond.code Lib.Math.max.name Lib.Math.max.code 2 (some .int) ∈ XT) (hfr : 1 ≤ fr) (hlo : (st.map fun v => v.category).sum + 13 ≤ lo) (h : z_Sim X nL K (pc + 3) lv (.int (if v < w then w else v) :: st) g) : z_Sim X nL K pc lv (.int w :: .int v :: st) g := by
  intro M H locs ls r M1 hI hL h0 hl hp hK hF
  obtain ⟨q1, q2⟩ := z_nxR C h0 (g.2 _ _ _ hp) hF
  exact va_mmax C.1 C.2.1 (by rw [C.2.2.1]; exact hl.1.symm) C.own (C.ws _ hlk) (C.ws _ hst) (C.ws _ hini) (C.ws _ hcd) (by rw [C.2.2.2.2.2.2.2.2.1]; exact hfr) (by rw [C.2.2.2.2.2.2.2.2.2.1]; exact hlo) q1 q2 hd (h M H locs ls r M1 hI hL h0 hl hp hK hF)
theorem r_min (C : z_Ok X y cc nL rt fr lo) {idx : Nat} {v w : Int32} (hd : decode cc pc = .ok (.invokestatic idx, 3)) (hlk : Cond.methodLink y.cls idx Lib.Math.min.name ∈ XT) (hst : Cond.static Lib.Math.min.name ∈ XT) (hini : Cond.initialized "java/lang/Math" ∈ XT) (hcd : Cond.code Lib.Math.min.name Lib.Math.min.code 2 (some .int) ∈ XT) (hfr : 1 ≤ fr) (hlo : (st.map fun v => v.category).sum + 13 ≤ lo) (h : z_Sim X nL K (pc + 3) lv (.int (if w < v then w else v) :: st) g) : z_Sim X nL K pc lv (.int w :: .int v :: st) g := by
  intro M H locs ls r M1 hI hL h0 hl hp hK hF
  obtain ⟨q1, q2⟩ := z_nxR C h0 (g.2 _ _ _ hp) hF
  exact va_mmin C.1 C.2.1 (by rw [C.2.2.1]; exact hl.1.symm) C.own (C.ws _ hlk) (C.ws _ hst) (C.ws _ hini) (C.ws _ hcd) (by rw [C.2.2.2.2.2.2.2.2.1]; exact hfr) (by rw [C.2.2.2.2.2.2.2.2.2.1]; exact hlo) q1 q2 hd (h M H locs ls r M1 hI hL h0 hl hp hK hF)
end ZN
