/-! ===== rows: an instruction, over the simulation ===== -/
def z_lk : List (Nat × Value) → Nat → Option Value
  | [], _ => none
  | q :: t, i => if q.1 == i then some q.2 else z_lk t i
theorem z_lk_in : ∀ {lv : List (Nat × Value)} {i : Nat} {v : Value}, z_lk lv i = some v → (i, v) ∈ lv
  | [], _, _, h => by cases h
  | q :: t, i, v, h => by
    unfold z_lk at h
    by_cases hq : (q.1 == i) = true
    · rw [if_pos hq] at h
      cases h
      have e : q.1 = i := by simpa using hq
      rw [← e]
      exact List.mem_cons_self
    · rw [if_neg hq] at h
      exact List.mem_cons_of_mem _ (z_lk_in h)
theorem z_lv_at {ls : Array Slot} {nL : Nat} {lv : List (Nat × Value)} (h : lv_has ls nL lv) {i : Nat} {v : Value} (hk : z_lk lv i = some v) : ls[i]? = some (.val v) := h.2.2 (i, v) (z_lk_in hk)
theorem z_lv_sub {ls : Array Slot} {nL : Nat} {lv lw : List (Nat × Value)} (h : lv_has ls nL lv) (hk : lw.map (fun q => z_lk lv q.1) = lw.map (fun q => some q.2)) : lv_has ls nL lw := by
  refine ⟨h.1, h.2.1, fun q hq => ?_⟩
  have := List.map_inj_left.mp hk q hq
  exact z_lv_at h this
abbrev z_put (lv : List (Nat × Value)) (i : Nat) (v : Value) : List (Nat × Value) := (i, v) :: lv.filter (fun q => !(q.1 == i) && !(q.1 + 1 == i && q.2.category == 2))
abbrev z_put2 (lv : List (Nat × Value)) (i : Nat) (v : Value) : List (Nat × Value) := (i, v) :: lv.filter (fun q => !(q.1 == i) && (!(q.1 == i + 1) && !(q.1 + 1 == i && q.2.category == 2)))
section ZR
variable {β : Type} {X : zX} {y : MethodName} {cc : ByteArray} {nL : Nat} {rt : Option FieldType} {fr lo : Nat} {K : String ⊕ β → zM → Prop} {pc : Nat} {lv : List (Nat × Value)} {st : List Value} {g : zP β}
/-- other locals, fewer or in another order -/
theorem r_sub (lw : List (Nat × Value)) (hk : lw.map (fun q => z_lk lv q.1) = lw.map (fun q => some q.2)) (h : z_Sim X nL K pc lw st g) : z_Sim X nL K pc lv st g := fun M H locs ls r M1 hI hL h0 hl hp hK hF => h M H locs ls r M1 hI hL h0 (z_lv_sub hl hk) hp hK hF
theorem r_ite {c : Prop} [Decidable c] {g1 g2 : zP β} (h1 : c → z_Sim X nL K pc lv st g1) (h2 : ¬ c → z_Sim X nL K pc lv st g2) : z_Sim X nL K pc lv st (if c then g1 else g2) := by
  by_cases hc : c
  · rw [if_pos hc]; exact h1 hc
  · rw [if_neg hc]; exact h2 hc
theorem r_fl : z_Sim X nL K pc lv st (z_fl : zP β) := fun M H locs ls r M1 hI hL h0 hl hp hK hF => by cases hp
theorem r_nz {v : Int32} (h : ¬ v = 0 → z_Sim X nL K pc lv st g) : z_Sim X nL K pc lv st (z_nz v g) := by
  unfold z_nz
  exact r_ite (fun _ => r_fl) h
theorem r_iconst (C : z_Ok X y cc nL rt fr lo) {n : Int} {v : Int32} (hd : decode cc pc = .ok (.iconst n, 1)) (hv : Int32.ofInt n = v) (h : z_Sim X nL K (pc + 1) lv (.int v :: st) g) : z_Sim X nL K pc lv (st) g := fun M H locs ls r M1 hI hL h0 hl hp hK hF => lv_iconst C.1 C.2.1 hd hv (h M H locs ls r M1 hI hL h0 hl hp hK hF)
theorem r_bipush (C : z_Ok X y cc nL rt fr lo) {n : Int} {v : Int32} (hd : decode cc pc = .ok (.bipush n, 2)) (hv : (Int8.ofInt n).toInt32 = v) (h : z_Sim X nL K (pc + 2) lv (.int v :: st) g) : z_Sim X nL K pc lv (st) g := fun M H locs ls r M1 hI hL h0 hl hp hK hF => lv_bipush C.1 C.2.1 hd hv (h M H locs ls r M1 hI hL h0 hl hp hK hF)
theorem r_sipush (C : z_Ok X y cc nL rt fr lo) {n : Int} {v : Int32} (hd : decode cc pc = .ok (.sipush n, 3)) (hv : (Int16.ofInt n).toInt32 = v) (h : z_Sim X nL K (pc + 3) lv (.int v :: st) g) : z_Sim X nL K pc lv (st) g := fun M H locs ls r M1 hI hL h0 hl hp hK hF => lv_sipush C.1 C.2.1 hd hv (h M H locs ls r M1 hI hL h0 hl hp hK hF)
theorem r_lconst (C : z_Ok X y cc nL rt fr lo) {n : Fin 2} {v : Int64} (hd : decode cc pc = .ok (.lconst n, 1)) (hv : Int64.ofNat (n : Nat) = v) (h : z_Sim X nL K (pc + 1) lv (.long v :: st) g) : z_Sim X nL K pc lv (st) g := fun M H locs ls r M1 hI hL h0 hl hp hK hF => lv_lconst C.1 C.2.1 hd hv (h M H locs ls r M1 hI hL h0 hl hp hK hF)
theorem r_ldc2 (C : z_Ok X y cc nL rt fr lo) {index : Nat} {v : Int64} (hd : decode cc pc = .ok (.ldc2_w index, 3)) (hw : Cond.constantLong y.cls index v ∈ XT) (h : z_Sim X nL K (pc + 3) lv (.long v :: st) g) : z_Sim X nL K pc lv st g := fun M H locs ls r M1 hI hL h0 hl hp hK hF => lv_ldc2 C.1 C.2.1 C.2.2.2.1 (C.2.2.2.2.1 _ hw) hd (h M H locs ls r M1 hI hL h0 hl hp hK hF)
theorem r_ldc (C : z_Ok X y cc nL rt fr lo) {index : Nat} {v : Int32} (hd : decode cc pc = .ok (.ldc index, 2)) (hw : Cond.constant y.cls index v ∈ XT) (h : z_Sim X nL K (pc + 2) lv (.int v :: st) g) : z_Sim X nL K pc lv st g := fun M H locs ls r M1 hI hL h0 hl hp hK hF => lv_ldc C.1 C.2.1 C.2.2.2.1 (C.2.2.2.2.1 _ hw) hd (h M H locs ls r M1 hI hL h0 hl hp hK hF)
theorem r_iload_n (C : z_Ok X y cc nL rt fr lo) {k : Fin 4} {i : Nat} {v : Int32} (hd : decode cc pc = .ok (.iload_n k, 1)) (hi : (k : Nat) = i) (hv : z_lk lv i = some (.int v)) (h : z_Sim X nL K (pc + 1) lv (.int v :: st) g) : z_Sim X nL K pc lv st g := fun M H locs ls r M1 hI hL h0 hl hp hK hF => lv_iload_n C.1 C.2.1 hd hi (z_lv_at hl hv) (h M H locs ls r M1 hI hL h0 hl hp hK hF)
theorem r_iload (C : z_Ok X y cc nL rt fr lo) {i : Nat} {v : Int32} (hd : decode cc pc = .ok (.iload i, 2)) (hv : z_lk lv i = some (.int v)) (h : z_Sim X nL K (pc + 2) lv (.int v :: st) g) : z_Sim X nL K pc lv st g := fun M H locs ls r M1 hI hL h0 hl hp hK hF => lv_iload C.1 C.2.1 hd (z_lv_at hl hv) (h M H locs ls r M1 hI hL h0 hl hp hK hF)
theorem r_lload_n (C : z_Ok X y cc nL rt fr lo) {k : Fin 4} {i : Nat} {v : Int64} (hd : decode cc pc = .ok (.lload_n k, 1)) (hi : (k : Nat) = i) (hv : z_lk lv i = some (.long v)) (h : z_Sim X nL K (pc + 1) lv (.long v :: st) g) : z_Sim X nL K pc lv st g := fun M H locs ls r M1 hI hL h0 hl hp hK hF => lv_lload_n C.1 C.2.1 hd hi (z_lv_at hl hv) (h M H locs ls r M1 hI hL h0 hl hp hK hF)
theorem r_lload (C : z_Ok X y cc nL rt fr lo) {i : Nat} {v : Int64} (hd : decode cc pc = .ok (.lload i, 2)) (hv : z_lk lv i = some (.long v)) (h : z_Sim X nL K (pc + 2) lv (.long v :: st) g) : z_Sim X nL K pc lv st g := fun M H locs ls r M1 hI hL h0 hl hp hK hF => lv_lload C.1 C.2.1 hd (z_lv_at hl hv) (h M H locs ls r M1 hI hL h0 hl hp hK hF)
theorem r_aload_n (C : z_Ok X y cc nL rt fr lo) {k : Fin 4} {i : Nat} {v : Nat} (hd : decode cc pc = .ok (.aload_n k, 1)) (hi : (k : Nat) = i) (hv : z_lk lv i = some (.ref v)) (h : z_Sim X nL K (pc + 1) lv (.ref v :: st) g) : z_Sim X nL K pc lv st g := fun M H locs ls r M1 hI hL h0 hl hp hK hF => lv_aload_n C.1 C.2.1 hd hi (z_lv_at hl hv) (h M H locs ls r M1 hI hL h0 hl hp hK hF)
theorem r_aload (C : z_Ok X y cc nL rt fr lo) {i : Nat} {v : Nat} (hd : decode cc pc = .ok (.aload i, 2)) (hv : z_lk lv i = some (.ref v)) (h : z_Sim X nL K (pc + 2) lv (.ref v :: st) g) : z_Sim X nL K pc lv st g := fun M H locs ls r M1 hI hL h0 hl hp hK hF => lv_aload C.1 C.2.1 hd (z_lv_at hl hv) (h M H locs ls r M1 hI hL h0 hl hp hK hF)
theorem r_istore_n (C : z_Ok X y cc nL rt fr lo) {k : Fin 4} {i : Nat} {v : Int32} (hd : decode cc pc = .ok (.istore_n k, 1)) (hi : (k : Nat) = i) (hn : i < nL) (h : z_Sim X nL K (pc + 1) (z_put lv i (.int v)) st g) : z_Sim X nL K pc lv (.int v :: st) g := fun M H locs ls r M1 hI hL h0 hl hp hK hF => lv_istore_n C.1 C.2.1 hd hi hl hn rfl (fun ls' hl' => h M H locs ls' r M1 hI hL h0 hl' hp hK hF)
theorem r_istore (C : z_Ok X y cc nL rt fr lo) {i : Nat} {v : Int32} (hd : decode cc pc = .ok (.istore i, 2)) (hn : i < nL) (h : z_Sim X nL K (pc + 2) (z_put lv i (.int v)) st g) : z_Sim X nL K pc lv (.int v :: st) g := fun M H locs ls r M1 hI hL h0 hl hp hK hF => lv_istore C.1 C.2.1 hd hl hn rfl (fun ls' hl' => h M H locs ls' r M1 hI hL h0 hl' hp hK hF)
theorem r_astore_n (C : z_Ok X y cc nL rt fr lo) {k : Fin 4} {i : Nat} {v : Nat} (hd : decode cc pc = .ok (.astore_n k, 1)) (hi : (k : Nat) = i) (hn : i < nL) (h : z_Sim X nL K (pc + 1) (z_put lv i (.ref v)) st g) : z_Sim X nL K pc lv (.ref v :: st) g := fun M H locs ls r M1 hI hL h0 hl hp hK hF => lv_astore_n C.1 C.2.1 hd hi hl hn rfl (fun ls' hl' => h M H locs ls' r M1 hI hL h0 hl' hp hK hF)
theorem r_astore (C : z_Ok X y cc nL rt fr lo) {i : Nat} {v : Nat} (hd : decode cc pc = .ok (.astore i, 2)) (hn : i < nL) (h : z_Sim X nL K (pc + 2) (z_put lv i (.ref v)) st g) : z_Sim X nL K pc lv (.ref v :: st) g := fun M H locs ls r M1 hI hL h0 hl hp hK hF => lv_astore C.1 C.2.1 hd hl hn rfl (fun ls' hl' => h M H locs ls' r M1 hI hL h0 hl' hp hK hF)
theorem r_lstore_n (C : z_Ok X y cc nL rt fr lo) {k : Fin 4} {i : Nat} {v : Int64} (hd : decode cc pc = .ok (.lstore_n k, 1)) (hi : (k : Nat) = i) (hn : i + 1 < nL) (h : z_Sim X nL K (pc + 1) (z_put2 lv i (.long v)) st g) : z_Sim X nL K pc lv (.long v :: st) g := fun M H locs ls r M1 hI hL h0 hl hp hK hF => lv_lstore_n C.1 C.2.1 hd hi hl hn rfl (fun ls' hl' => h M H locs ls' r M1 hI hL h0 hl' hp hK hF)
theorem r_lstore (C : z_Ok X y cc nL rt fr lo) {i : Nat} {v : Int64} (hd : decode cc pc = .ok (.lstore i, 2)) (hn : i + 1 < nL) (h : z_Sim X nL K (pc + 2) (z_put2 lv i (.long v)) st g) : z_Sim X nL K pc lv (.long v :: st) g := fun M H locs ls r M1 hI hL h0 hl hp hK hF => lv_lstore C.1 C.2.1 hd hl hn rfl (fun ls' hl' => h M H locs ls' r M1 hI hL h0 hl' hp hK hF)
theorem r_iinc (C : z_Ok X y cc nL rt fr lo) {i : Nat} {n : Int} {v w : Int32} (hd : decode cc pc = .ok (.iinc i n, 3)) (hv : z_lk lv i = some (.int v)) (hw : Int32.ofInt n = w) (hn : i < nL) (h : z_Sim X nL K (pc + 3) (z_put lv i (.int (v + w))) st g) : z_Sim X nL K pc lv st g := by
  intro M H locs ls r M1 hI hL h0 hl hp hK hF
  obtain ⟨k, hk⟩ := List.getElem?_of_mem (z_lk_in hv)
  subst hw
  exact lv_iinc (v := v + Int32.ofInt n) C.1 C.2.1 hd hl hk rfl hn rfl (fun ls' hl' => h M H locs ls' r M1 hI hL h0 hl' hp hK hF)
theorem r_iadd (C : z_Ok X y cc nL rt fr lo) {v w : Int32} (hd : decode cc pc = .ok (.iadd, 1))  (h : z_Sim X nL K (pc + 1) lv (.int (v + w) :: st) g) : z_Sim X nL K pc lv (.int w :: .int v :: st) g := fun M H locs ls r M1 hI hL h0 hl hp hK hF => lv_iadd C.1 C.2.1 hd (h M H locs ls r M1 hI hL h0 hl hp hK hF)
theorem r_isub (C : z_Ok X y cc nL rt fr lo) {v w : Int32} (hd : decode cc pc = .ok (.isub, 1))  (h : z_Sim X nL K (pc + 1) lv (.int (v - w) :: st) g) : z_Sim X nL K pc lv (.int w :: .int v :: st) g := fun M H locs ls r M1 hI hL h0 hl hp hK hF => lv_isub C.1 C.2.1 hd (h M H locs ls r M1 hI hL h0 hl hp hK hF)
theorem r_imul (C : z_Ok X y cc nL rt fr lo) {v w : Int32} (hd : decode cc pc = .ok (.imul, 1))  (h : z_Sim X nL K (pc + 1) lv (.int (v * w) :: st) g) : z_Sim X nL K pc lv (.int w :: .int v :: st) g := fun M H locs ls r M1 hI hL h0 hl hp hK hF => lv_imul C.1 C.2.1 hd (h M H locs ls r M1 hI hL h0 hl hp hK hF)
theorem r_iand (C : z_Ok X y cc nL rt fr lo) {v w : Int32} (hd : decode cc pc = .ok (.iand, 1))  (h : z_Sim X nL K (pc + 1) lv (.int (v &&& w) :: st) g) : z_Sim X nL K pc lv (.int w :: .int v :: st) g := fun M H locs ls r M1 hI hL h0 hl hp hK hF => lv_iand C.1 C.2.1 hd (h M H locs ls r M1 hI hL h0 hl hp hK hF)
theorem r_ior (C : z_Ok X y cc nL rt fr lo) {v w : Int32} (hd : decode cc pc = .ok (.ior, 1))  (h : z_Sim X nL K (pc + 1) lv (.int (v ||| w) :: st) g) : z_Sim X nL K pc lv (.int w :: .int v :: st) g := fun M H locs ls r M1 hI hL h0 hl hp hK hF => lv_ior C.1 C.2.1 hd (h M H locs ls r M1 hI hL h0 hl hp hK hF)
theorem r_ixor (C : z_Ok X y cc nL rt fr lo) {v w : Int32} (hd : decode cc pc = .ok (.ixor, 1))  (h : z_Sim X nL K (pc + 1) lv (.int (v ^^^ w) :: st) g) : z_Sim X nL K pc lv (.int w :: .int v :: st) g := fun M H locs ls r M1 hI hL h0 hl hp hK hF => lv_ixor C.1 C.2.1 hd (h M H locs ls r M1 hI hL h0 hl hp hK hF)
theorem r_ishl (C : z_Ok X y cc nL rt fr lo) {v w : Int32} (hd : decode cc pc = .ok (.ishl, 1))  (h : z_Sim X nL K (pc + 1) lv (.int (v <<< (w &&& 31)) :: st) g) : z_Sim X nL K pc lv (.int w :: .int v :: st) g := fun M H locs ls r M1 hI hL h0 hl hp hK hF => lv_ishl C.1 C.2.1 hd (h M H locs ls r M1 hI hL h0 hl hp hK hF)
theorem r_ishr (C : z_Ok X y cc nL rt fr lo) {v w : Int32} (hd : decode cc pc = .ok (.ishr, 1))  (h : z_Sim X nL K (pc + 1) lv (.int (v >>> (w &&& 31)) :: st) g) : z_Sim X nL K pc lv (.int w :: .int v :: st) g := fun M H locs ls r M1 hI hL h0 hl hp hK hF => lv_ishr C.1 C.2.1 hd (h M H locs ls r M1 hI hL h0 hl hp hK hF)
theorem r_idiv (C : z_Ok X y cc nL rt fr lo) {v w : Int32} (hd : decode cc pc = .ok (.idiv, 1)) (hne : ¬ w = 0) (h : z_Sim X nL K (pc + 1) lv (.int (v / w) :: st) g) : z_Sim X nL K pc lv (.int w :: .int v :: st) g := fun M H locs ls r M1 hI hL h0 hl hp hK hF => lv_idiv C.1 C.2.1 hd hne (h M H locs ls r M1 hI hL h0 hl hp hK hF)
theorem r_irem (C : z_Ok X y cc nL rt fr lo) {v w : Int32} (hd : decode cc pc = .ok (.irem, 1)) (hne : ¬ w = 0) (h : z_Sim X nL K (pc + 1) lv (.int (v - v / w * w) :: st) g) : z_Sim X nL K pc lv (.int w :: .int v :: st) g := fun M H locs ls r M1 hI hL h0 hl hp hK hF => lv_irem C.1 C.2.1 hd hne (h M H locs ls r M1 hI hL h0 hl hp hK hF)
theorem r_ladd (C : z_Ok X y cc nL rt fr lo) {v w : Int64} (hd : decode cc pc = .ok (.ladd, 1))  (h : z_Sim X nL K (pc + 1) lv (.long (v + w) :: st) g) : z_Sim X nL K pc lv (.long w :: .long v :: st) g := fun M H locs ls r M1 hI hL h0 hl hp hK hF => lv_ladd C.1 C.2.1 hd (h M H locs ls r M1 hI hL h0 hl hp hK hF)
theorem r_lsub (C : z_Ok X y cc nL rt fr lo) {v w : Int64} (hd : decode cc pc = .ok (.lsub, 1))  (h : z_Sim X nL K (pc + 1) lv (.long (v - w) :: st) g) : z_Sim X nL K pc lv (.long w :: .long v :: st) g := fun M H locs ls r M1 hI hL h0 hl hp hK hF => lv_lsub C.1 C.2.1 hd (h M H locs ls r M1 hI hL h0 hl hp hK hF)
theorem r_lmul (C : z_Ok X y cc nL rt fr lo) {v w : Int64} (hd : decode cc pc = .ok (.lmul, 1))  (h : z_Sim X nL K (pc + 1) lv (.long (v * w) :: st) g) : z_Sim X nL K pc lv (.long w :: .long v :: st) g := fun M H locs ls r M1 hI hL h0 hl hp hK hF => lv_lmul C.1 C.2.1 hd (h M H locs ls r M1 hI hL h0 hl hp hK hF)
theorem r_iushr (C : z_Ok X y cc nL rt fr lo) {v w : Int32} (hd : decode cc pc = .ok (.iushr, 1)) (h : z_Sim X nL K (pc + 1) lv (.int ((v.toUInt32 >>> (w.toUInt32 &&& Int32.toUInt32 31)).toInt32) :: st) g) : z_Sim X nL K pc lv (.int w :: .int v :: st) g := fun M H locs ls r M1 hI hL h0 hl hp hK hF => lv_iushr C.1 C.2.1 hd rfl (h M H locs ls r M1 hI hL h0 hl hp hK hF)
theorem r_lcmp (C : z_Ok X y cc nL rt fr lo) {v w : Int64} (hd : decode cc pc = .ok (.lcmp, 1)) (h : z_Sim X nL K (pc + 1) lv (.int (lg_cmp v w) :: st) g) : z_Sim X nL K pc lv (.long w :: .long v :: st) g := fun M H locs ls r M1 hI hL h0 hl hp hK hF => W.lcmp C.1 C.2.1 hd (h M H locs ls r M1 hI hL h0 hl hp hK hF)
theorem r_ineg (C : z_Ok X y cc nL rt fr lo) {v : Int32} (hd : decode cc pc = .ok (.ineg, 1)) (h : z_Sim X nL K (pc + 1) lv (.int (-v) :: st) g) : z_Sim X nL K pc lv (.int v :: st) g := fun M H locs ls r M1 hI hL h0 hl hp hK hF => lv_ineg C.1 C.2.1 hd (h M H locs ls r M1 hI hL h0 hl hp hK hF)
theorem r_i2l (C : z_Ok X y cc nL rt fr lo) {v : Int32} (hd : decode cc pc = .ok (.i2l, 1)) (h : z_Sim X nL K (pc + 1) lv (.long v.toInt64 :: st) g) : z_Sim X nL K pc lv (.int v :: st) g := fun M H locs ls r M1 hI hL h0 hl hp hK hF => lv_i2l C.1 C.2.1 hd rfl (h M H locs ls r M1 hI hL h0 hl hp hK hF)
theorem r_i2b (C : z_Ok X y cc nL rt fr lo) {v : Int32} (hd : decode cc pc = .ok (.i2b, 1)) (h : z_Sim X nL K (pc + 1) lv (.int v.toInt8.toInt32 :: st) g) : z_Sim X nL K pc lv (.int v :: st) g := fun M H locs ls r M1 hI hL h0 hl hp hK hF => lv_i2b C.1 C.2.1 hd rfl (h M H locs ls r M1 hI hL h0 hl hp hK hF)
theorem r_dup (C : z_Ok X y cc nL rt fr lo) {a : Value} (hd : decode cc pc = .ok (.dup, 1)) (ha : a.category = 1) (h : z_Sim X nL K (pc + 1) lv (a :: a :: st) g) : z_Sim X nL K pc lv (a :: st) g := fun M H locs ls r M1 hI hL h0 hl hp hK hF => lv_dup C.1 C.2.1 hd ha (h M H locs ls r M1 hI hL h0 hl hp hK hF)
theorem r_pop (C : z_Ok X y cc nL rt fr lo) {a : Value} (hd : decode cc pc = .ok (.pop, 1)) (ha : a.category = 1) (h : z_Sim X nL K (pc + 1) lv st g) : z_Sim X nL K pc lv (a :: st) g := fun M H locs ls r M1 hI hL h0 hl hp hK hF => lv_pop C.1 C.2.1 hd ha (h M H locs ls r M1 hI hL h0 hl hp hK hF)
theorem r_dup_x1 (C : z_Ok X y cc nL rt fr lo) {a b : Value} (hd : decode cc pc = .ok (.dup_x1, 1)) (ha : a.category = 1) (hb : b.category = 1) (h : z_Sim X nL K (pc + 1) lv (a :: b :: a :: st) g) : z_Sim X nL K pc lv (a :: b :: st) g := fun M H locs ls r M1 hI hL h0 hl hp hK hF => lv_dup_x1 C.1 C.2.1 hd ha hb (h M H locs ls r M1 hI hL h0 hl hp hK hF)
theorem r_dup2 (C : z_Ok X y cc nL rt fr lo) {a b : Value} (hd : decode cc pc = .ok (.dup2, 1)) (ha : a.category = 1) (hb : b.category = 1) (h : z_Sim X nL K (pc + 1) lv (a :: b :: a :: b :: st) g) : z_Sim X nL K pc lv (a :: b :: st) g := fun M H locs ls r M1 hI hL h0 hl hp hK hF => lv_dup2_11 C.1 C.2.1 hd ha hb (h M H locs ls r M1 hI hL h0 hl hp hK hF)
theorem r_goto (C : z_Ok X y cc nL rt fr lo) {off : Int} {tgt : Nat} (hd : decode cc pc = .ok (.goto off, 3)) (ht : (pc : Int) + off = (tgt : Int)) (h : z_Sim X nL K tgt lv st g) : z_Sim X nL K pc lv st g := fun M H locs ls r M1 hI hL h0 hl hp hK hF => lv_goto C.1 C.2.1 hd ht (h M H locs ls r M1 hI hL h0 hl hp hK hF)
theorem r_icmp_eq (C : z_Ok X y cc nL rt fr lo) {v w : Int32} {off : Int} {tgt : Nat} {g1 g2 : zP β} (hd : decode cc pc = .ok (.if_icmp .eq off, 3)) (ht : (pc : Int) + off = (tgt : Int)) (h1 : v = w → z_Sim X nL K tgt lv st g1) (h2 : ¬ (v = w) → z_Sim X nL K (pc + 3) lv st g2) : z_Sim X nL K pc lv (.int w :: .int v :: st) (if v = w then g1 else g2) := by
  intro M H locs ls r M1 hI hL h0 hl hp hK hF
  refine lv_icmp_eq C.1 C.2.1 hd ht (fun c => ?_) (fun c => ?_)
  · rw [if_pos c] at hp; exact h1 c M H locs ls r M1 hI hL h0 hl hp hK hF
  · rw [if_neg c] at hp; exact h2 c M H locs ls r M1 hI hL h0 hl hp hK hF
theorem r_if_eq (C : z_Ok X y cc nL rt fr lo) {v : Int32} {off : Int} {tgt : Nat} {g1 g2 : zP β} (hd : decode cc pc = .ok (.ifCond .eq off, 3)) (ht : (pc : Int) + off = (tgt : Int)) (h1 : v = 0 → z_Sim X nL K tgt lv st g1) (h2 : ¬ (v = 0) → z_Sim X nL K (pc + 3) lv st g2) : z_Sim X nL K pc lv (.int v :: st) (if v = 0 then g1 else g2) := by
  intro M H locs ls r M1 hI hL h0 hl hp hK hF
  refine lv_if_eq C.1 C.2.1 hd ht (fun c => ?_) (fun c => ?_)
  · rw [if_pos c] at hp; exact h1 c M H locs ls r M1 hI hL h0 hl hp hK hF
  · rw [if_neg c] at hp; exact h2 c M H locs ls r M1 hI hL h0 hl hp hK hF
theorem r_icmp_lt (C : z_Ok X y cc nL rt fr lo) {v w : Int32} {off : Int} {tgt : Nat} {g1 g2 : zP β} (hd : decode cc pc = .ok (.if_icmp .lt off, 3)) (ht : (pc : Int) + off = (tgt : Int)) (h1 : v < w → z_Sim X nL K tgt lv st g1) (h2 : ¬ (v < w) → z_Sim X nL K (pc + 3) lv st g2) : z_Sim X nL K pc lv (.int w :: .int v :: st) (if v < w then g1 else g2) := by
  intro M H locs ls r M1 hI hL h0 hl hp hK hF
  refine lv_icmp_lt C.1 C.2.1 hd ht (fun c => ?_) (fun c => ?_)
  · rw [if_pos c] at hp; exact h1 c M H locs ls r M1 hI hL h0 hl hp hK hF
  · rw [if_neg c] at hp; exact h2 c M H locs ls r M1 hI hL h0 hl hp hK hF
theorem r_if_lt (C : z_Ok X y cc nL rt fr lo) {v : Int32} {off : Int} {tgt : Nat} {g1 g2 : zP β} (hd : decode cc pc = .ok (.ifCond .lt off, 3)) (ht : (pc : Int) + off = (tgt : Int)) (h1 : v < 0 → z_Sim X nL K tgt lv st g1) (h2 : ¬ (v < 0) → z_Sim X nL K (pc + 3) lv st g2) : z_Sim X nL K pc lv (.int v :: st) (if v < 0 then g1 else g2) := by
  intro M H locs ls r M1 hI hL h0 hl hp hK hF
  refine lv_if_lt C.1 C.2.1 hd ht (fun c => ?_) (fun c => ?_)
  · rw [if_pos c] at hp; exact h1 c M H locs ls r M1 hI hL h0 hl hp hK hF
  · rw [if_neg c] at hp; exact h2 c M H locs ls r M1 hI hL h0 hl hp hK hF
theorem r_icmp_ge (C : z_Ok X y cc nL rt fr lo) {v w : Int32} {off : Int} {tgt : Nat} {g1 g2 : zP β} (hd : decode cc pc = .ok (.if_icmp .ge off, 3)) (ht : (pc : Int) + off = (tgt : Int)) (h1 : w ≤ v → z_Sim X nL K tgt lv st g1) (h2 : ¬ (w ≤ v) → z_Sim X nL K (pc + 3) lv st g2) : z_Sim X nL K pc lv (.int w :: .int v :: st) (if w ≤ v then g1 else g2) := by
  intro M H locs ls r M1 hI hL h0 hl hp hK hF
  refine lv_icmp_ge C.1 C.2.1 hd ht (fun c => ?_) (fun c => ?_)
  · rw [if_pos c] at hp; exact h1 c M H locs ls r M1 hI hL h0 hl hp hK hF
  · rw [if_neg c] at hp; exact h2 c M H locs ls r M1 hI hL h0 hl hp hK hF
theorem r_if_ge (C : z_Ok X y cc nL rt fr lo) {v : Int32} {off : Int} {tgt : Nat} {g1 g2 : zP β} (hd : decode cc pc = .ok (.ifCond .ge off, 3)) (ht : (pc : Int) + off = (tgt : Int)) (h1 : 0 ≤ v → z_Sim X nL K tgt lv st g1) (h2 : ¬ (0 ≤ v) → z_Sim X nL K (pc + 3) lv st g2) : z_Sim X nL K pc lv (.int v :: st) (if 0 ≤ v then g1 else g2) := by
  intro M H locs ls r M1 hI hL h0 hl hp hK hF
  refine lv_if_ge C.1 C.2.1 hd ht (fun c => ?_) (fun c => ?_)
  · rw [if_pos c] at hp; exact h1 c M H locs ls r M1 hI hL h0 hl hp hK hF
  · rw [if_neg c] at hp; exact h2 c M H locs ls r M1 hI hL h0 hl hp hK hF
theorem r_icmp_gt (C : z_Ok X y cc nL rt fr lo) {v w : Int32} {off : Int} {tgt : Nat} {g1 g2 : zP β} (hd : decode cc pc = .ok (.if_icmp .gt off, 3)) (ht : (pc : Int) + off = (tgt : Int)) (h1 : w < v → z_Sim X nL K tgt lv st g1) (h2 : ¬ (w < v) → z_Sim X nL K (pc + 3) lv st g2) : z_Sim X nL K pc lv (.int w :: .int v :: st) (if w < v then g1 else g2) := by
  intro M H locs ls r M1 hI hL h0 hl hp hK hF
  refine lv_icmp_gt C.1 C.2.1 hd ht (fun c => ?_) (fun c => ?_)
  · rw [if_pos c] at hp; exact h1 c M H locs ls r M1 hI hL h0 hl hp hK hF
  · rw [if_neg c] at hp; exact h2 c M H locs ls r M1 hI hL h0 hl hp hK hF
theorem r_if_gt (C : z_Ok X y cc nL rt fr lo) {v : Int32} {off : Int} {tgt : Nat} {g1 g2 : zP β} (hd : decode cc pc = .ok (.ifCond .gt off, 3)) (ht : (pc : Int) + off = (tgt : Int)) (h1 : 0 < v → z_Sim X nL K tgt lv st g1) (h2 : ¬ (0 < v) → z_Sim X nL K (pc + 3) lv st g2) : z_Sim X nL K pc lv (.int v :: st) (if 0 < v then g1 else g2) := by
  intro M H locs ls r M1 hI hL h0 hl hp hK hF
  refine lv_if_gt C.1 C.2.1 hd ht (fun c => ?_) (fun c => ?_)
  · rw [if_pos c] at hp; exact h1 c M H locs ls r M1 hI hL h0 hl hp hK hF
  · rw [if_neg c] at hp; exact h2 c M H locs ls r M1 hI hL h0 hl hp hK hF
theorem r_icmp_le (C : z_Ok X y cc nL rt fr lo) {v w : Int32} {off : Int} {tgt : Nat} {g1 g2 : zP β} (hd : decode cc pc = .ok (.if_icmp .le off, 3)) (ht : (pc : Int) + off = (tgt : Int)) (h1 : v ≤ w → z_Sim X nL K tgt lv st g1) (h2 : ¬ (v ≤ w) → z_Sim X nL K (pc + 3) lv st g2) : z_Sim X nL K pc lv (.int w :: .int v :: st) (if v ≤ w then g1 else g2) := by
  intro M H locs ls r M1 hI hL h0 hl hp hK hF
  refine lv_icmp_le C.1 C.2.1 hd ht (fun c => ?_) (fun c => ?_)
  · rw [if_pos c] at hp; exact h1 c M H locs ls r M1 hI hL h0 hl hp hK hF
  · rw [if_neg c] at hp; exact h2 c M H locs ls r M1 hI hL h0 hl hp hK hF
theorem r_if_le (C : z_Ok X y cc nL rt fr lo) {v : Int32} {off : Int} {tgt : Nat} {g1 g2 : zP β} (hd : decode cc pc = .ok (.ifCond .le off, 3)) (ht : (pc : Int) + off = (tgt : Int)) (h1 : v ≤ 0 → z_Sim X nL K tgt lv st g1) (h2 : ¬ (v ≤ 0) → z_Sim X nL K (pc + 3) lv st g2) : z_Sim X nL K pc lv (.int v :: st) (if v ≤ 0 then g1 else g2) := by
  intro M H locs ls r M1 hI hL h0 hl hp hK hF
  refine lv_if_le C.1 C.2.1 hd ht (fun c => ?_) (fun c => ?_)
  · rw [if_pos c] at hp; exact h1 c M H locs ls r M1 hI hL h0 hl hp hK hF
  · rw [if_neg c] at hp; exact h2 c M H locs ls r M1 hI hL h0 hl hp hK hF
theorem r_icmp_ne (C : z_Ok X y cc nL rt fr lo) {v w : Int32} {off : Int} {tgt : Nat} {g1 g2 : zP β} (hd : decode cc pc = .ok (.if_icmp .ne off, 3)) (ht : (pc : Int) + off = (tgt : Int)) (h1 : v = w → z_Sim X nL K (pc + 3) lv st g1) (h2 : ¬ (v = w) → z_Sim X nL K tgt lv st g2) : z_Sim X nL K pc lv (.int w :: .int v :: st) (if v = w then g1 else g2) := by
  intro M H locs ls r M1 hI hL h0 hl hp hK hF
  refine lv_icmp_ne C.1 C.2.1 hd ht (fun c => ?_) (fun c => ?_)
  · rw [if_neg c] at hp; exact h2 c M H locs ls r M1 hI hL h0 hl hp hK hF
  · rw [if_pos c] at hp; exact h1 c M H locs ls r M1 hI hL h0 hl hp hK hF
theorem r_if_ne (C : z_Ok X y cc nL rt fr lo) {v : Int32} {off : Int} {tgt : Nat} {g1 g2 : zP β} (hd : decode cc pc = .ok (.ifCond .ne off, 3)) (ht : (pc : Int) + off = (tgt : Int)) (h1 : v = 0 → z_Sim X nL K (pc + 3) lv st g1) (h2 : ¬ (v = 0) → z_Sim X nL K tgt lv st g2) : z_Sim X nL K pc lv (.int v :: st) (if v = 0 then g1 else g2) := by
  intro M H locs ls r M1 hI hL h0 hl hp hK hF
  refine lv_if_ne C.1 C.2.1 hd ht (fun c => ?_) (fun c => ?_)
  · rw [if_neg c] at hp; exact h2 c M H locs ls r M1 hI hL h0 hl hp hK hF
  · rw [if_pos c] at hp; exact h1 c M H locs ls r M1 hI hL h0 hl hp hK hF
end ZR
