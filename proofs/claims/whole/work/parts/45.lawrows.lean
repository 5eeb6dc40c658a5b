/-! ===== the law's own rows: catching, methods with handlers, the script ===== -/
section ZH
variable {α β : Type}
/-- a program whose throws are caught -/
def z_ct (p : zP α) (h : String → zP β) (k : α → zP β) : zP β := ⟨fun M => match p.1 M with
  | none => none
  | some (.inl E, M1) => (h E).1 M1
  | some (.inr a, M1) => (k a).1 M1, fun M r M' e => by
  have e : (match p.1 M with | none => none | some (.inl E, M1) => (h E).1 M1 | some (.inr a, M1) => (k a).1 M1) = some (r, M') := e
  cases hp : p.1 M with
  | none => rw [hp] at e; cases e
  | some q =>
    obtain ⟨x, M1⟩ := q
    rw [hp] at e
    cases x with
    | inl E => exact (p.2 _ _ _ hp).tr ((h E).2 _ _ _ e)
    | inr a => exact (p.2 _ _ _ hp).tr ((k a).2 _ _ _ e)⟩
theorem z_ct_run {p : zP α} {h : String → zP β} {k : α → zP β} {M M1 : zM} {r : String ⊕ β} (e : (z_ct p h k).1 M = some (r, M1)) : ∃ (r2 : String ⊕ α) (M2 : zM), p.1 M = some (r2, M2) ∧ z_le M M2 ∧ z_le M2 M1 ∧ (∀ a, r2 = .inr a → (k a).1 M2 = some (r, M1)) ∧ (∀ E, r2 = .inl E → (h E).1 M2 = some (r, M1)) := by
  have e : (match p.1 M with | none => none | some (.inl E, M1) => (h E).1 M1 | some (.inr a, M1) => (k a).1 M1) = some (r, M1) := e
  cases hp : p.1 M with
  | none => rw [hp] at e; cases e
  | some q =>
    obtain ⟨x, M2⟩ := q
    rw [hp] at e
    cases x with
    | inl E => exact ⟨_, M2, rfl, p.2 _ _ _ hp, (h E).2 _ _ _ e, (fun a' e' => by cases e'), (fun E' e' => by cases e'; exact e)⟩
    | inr a => exact ⟨_, M2, rfl, p.2 _ _ _ hp, (k a).2 _ _ _ e, (fun a' e' => by cases e'; exact e), (fun E' e' => by cases e')⟩
theorem z_ct_of {p : zP α} {h : String → zP β} {k : α → zP β} {M M1 : zM} {a : α} (e : p.1 M = some (.inr a, M1)) : (z_ct p h k).1 M = (k a).1 M1 := by
  show (match p.1 M with | none => none | some (.inl E, M1) => (h E).1 M1 | some (.inr a, M1) => (k a).1 M1) = _
  rw [e]
theorem z_ct_th {p : zP α} {h : String → zP β} {k : α → zP β} {M M1 : zM} {E : String} (e : p.1 M = some (.inl E, M1)) : (z_ct p h k).1 M = (h E).1 M1 := by
  show (match p.1 M with | none => none | some (.inl E, M1) => (h E).1 M1 | some (.inr a, M1) => (k a).1 M1) = _
  rw [e]
/-- a method with handlers does what the program says -/
def z_SoundH {α : Type} (y : MethodName) (cc : ByteArray) (nL : Nat) (rt : Option FieldType) (hh : List (Nat × Nat × Nat × Nat)) (fr lo : Nat) (As : zD → Nat → List Value) (iv : α → Option Value) (prog : zP α) : Prop :=
  ∀ (l : Launch) (D : zD) (b : Nat) (Z : Heap) (M M' : zM) (r : String ⊕ α), l.stackTraces = false → prog.1 M = some (r, M') →
    vx_Met l y (.codeWith y cc nL rt hh :: XT) ({ frames := fr, locals := lo, cells := z_nx M' - z_nx M, slots := z_sl M' - z_sl M }) (va_Pc (As D b) (fun U => z_G D b Z U ∧ z_Inv D b Z M U.heap))
      (z_Qc D b Z M' (z_fin iv r)) (z_XC D b Z M' (z_fin iv r)) (z_nx M' - z_nx M) (z_sl M' - z_sl M) (fun q => b ≤ q)
theorem z_ofSimH {β : Type} {y : MethodName} {cc : ByteArray} {nL : Nat} {rt : Option FieldType} {hh : List (Nat × Nat × Nat × Nat)} {fr lo : Nat} {As : zD → Nat → List Value} {iv : β → Option Value} {prog : zP β} (hy : plainName y.cls = true) (hcap : ∀ D b, (lg_sl (As D b)).length ≤ nL)
    (h : ∀ X : zX, z_Ok X y cc nL rt fr lo → (x_c X).exceptionTable.toList = tableOf hh → z_Sim X nL (z_K0 X iv) 0 (lv_args 0 (As (x_D X) (x_b X))) [] prog) : z_SoundH y cc nL rt hh fr lo As iv prog := by
  intro l D b Z M M' r hst hr
  refine vx_ofWH (cc := cc) (maxL := nL) (ret := rt) (hh := hh) hy rfl ?_
  intro p e s m args below meth c s₁ B hml hv
  obtain ⟨rfl, hG, hI⟩ := hv
  have hts := atoms_spec (ws := .codeWith y cc nL rt hh :: XT) B.pre
  have htb : c.exceptionTable.toList = tableOf hh := vx_table (x := y) B (hts _ List.mem_cons_self)
  have C : z_Ok ((p, l, e, ({ frames := fr, locals := lo, cells := z_nx M' - z_nx M, slots := z_sl M' - z_sl M } : Room), s, m, (As D b).toArray, below, meth, c), (D, b, Z, M, M', z_fin iv r)) y cc nL rt fr lo :=
    ⟨B.exec, B.bytes, hml, findClass_of_methodNamed B.named, fun w hw => hts w (List.mem_cons_of_mem _ hw), B.notSynchronized, trivial, hG, rfl, rfl, Nat.le_refl _, Nat.le_refl _, hst, (name_of_methodNamed B.named B.method).1, B.returns, hI⟩
  have hl := lv_entry (As D b) (n := nL) (hcap D b)
  rw [lg_entry_eq]
  have h1 := h _ C htb M s.heap [] _ r M' hI (fun q hq => by cases hq) (z_le.rf _) hl hr ⟨rfl, rfl⟩ (z_le.rf _)
  have h2 : W p l e ({ frames := fr, locals := lo, cells := z_nx M' - z_nx M, slots := z_sl M' - z_sl M } : Room) s m (As D b).toArray below meth c s.heap [] (z_nx M - z_nx M) (z_sl M - z_sl M) (vx_MQ below (z_Qc D b Z M' (z_fin iv r)) (z_XC D b Z M' (z_fin iv r)) (As D b).toArray s (z_nx M' - z_nx M) (z_sl M' - z_sl M) (fun q => b ≤ q)) (F0 m 0 (lg_sl (As D b) ++ List.replicate (nL - (lg_sl (As D b)).length) Slot.unset).toArray []) := h1
  rw [Nat.sub_self, Nat.sub_self] at h2
  exact h2
end ZH
section ZI
variable {β : Type} {X : zX} {y : MethodName} {cc : ByteArray} {nL : Nat} {rt : Option FieldType} {fr lo : Nat} {K : String ⊕ β → zM → Prop} {pc : Nat} {lv : List (Nat × Value)} {st : List Value} {g : zP β}
variable {y2 : MethodName} {cc2 : ByteArray} {nL2 : Nat} {rt2 : Option FieldType} {fr2 lo2 : Nat} {As2 : zD → Nat → List Value} {prog : zP Int32}
theorem r_catch (C : z_Ok X y cc nL rt fr lo) {hh : List (Nat × Nat × Nat × Nat)} (hTb : (x_c X).exceptionTable.toList = tableOf hh) {c a idx n N : Nat} {Cn : String} {T : u_T} (As rest : List Value) {hc : String → zP β} {kk : Int32 → zP β} (hS : z_Sound y2 cc2 nL2 rt2 fr2 lo2 As2 z_ivI prog) (hm : z_Mt y2 cc2 nL2 rt2 n) (hC : z_Cl c Cn T N) (hd : decode cc pc = .ok (.invokevirtual idx, 3)) (hlk : Cond.methodLink y.cls idx y2 ∈ XT) (hin : Cond.instanceMethod y2 ∈ XT) (hse : Cond.selects Cn y2 y2 ∈ XT)
    (hAs : As2 (x_D X) (x_b X) = .ref (x_b X + a) :: As) (hn : As.length = n) (hst : st = As.reverse ++ .ref (x_b X + a) :: rest) (hW : (rest.map fun v => v.category).sum ≤ 8) (hroom : fr2 + 1 ≤ fr ∧ 8 + (nL2 + 11) + lo2 ≤ lo)
    (hthr : ∀ E, hc E = z_fl ∨ ∃ (pre : List ExceptionTableEntry) (x : ExceptionTableEntry) (suf : List ExceptionTableEntry), tableOf hh = pre ++ x :: suf ∧ (∀ z ∈ pre, z.catchType ≠ 0 ∧ ∃ nm : String, Cond.classLink y.cls z.catchType nm ∈ XT ∧ nm ∈ z_exc ∧ E ≠ nm) ∧ covers x pc = true ∧ x.catchType ≠ 0 ∧ Cond.classLink y.cls x.catchType E ∈ XT ∧ E ∈ z_exc ∧ ∀ q : Nat, z_Sim X nL K x.handlerPc lv [.ref q] (hc E))
    (h : ∀ r, z_Sim X nL K (pc + 3) lv (.int r :: rest) (kk r)) : z_Sim X nL K pc lv st (z_ct (z_cv c a prog) hc kk) := by
  intro M H locs ls r M1 hI hL h0 hl hp hK hF
  obtain ⟨r2, M2, p1, l1, l2, k1, k2⟩ := z_ct_run hp
  obtain ⟨ha, p1⟩ := z_gd_inv p1
  have hMet := hS (x_l X) (x_D X) (x_b X) (x_Z X) M M2 r2 C.2.2.2.2.2.2.2.2.2.2.2.2.1 p1
  rw [hAs] at hMet
  obtain ⟨q1, q2, q3, q4⟩ := z_room h0 l1 (z_le.rf _) (l2.tr hF)
  subst hst
  have hrun := vx_runV (e := x_e X) (below := x_below X) (meth := x_meth X) (locs := locs) (rest := rest) (g := F0 (x_m X) pc ls (As.reverse ++ .ref (x_b X + a) :: rest)) (Ts := XT) (C := Cn) (own := y.cls) ⟨C.1, C.2.1, C.2.2.1, C.own, C.ws⟩ hMet ⟨z_cb C hm hlk hroom, C.ws _ hin, C.ws _ hse⟩ ⟨z_blind, z_recv C hC hI ha, z_pre C hI⟩ rfl hn hl.1 rfl (by show 2 * 0 + _ ≤ 8; omega) hd ⟨Nat.le_trans q1 C.2.2.2.2.2.2.2.2.2.2.1, Nat.le_trans q2 C.2.2.2.2.2.2.2.2.2.2.2.1⟩
  intro T0 hT0 Xs
  rcases hrun T0 hT0 Xs with ⟨v, st₀, t, T', L, e0, X', hL', e1, e2, ⟨v', hv1, hv2, hI'⟩, stp⟩ | ⟨q, st₀, t, T', L, E, ce, e0, X', hL', e1, e2, ⟨hE, hI'⟩, hce, hcv, hcl, stp⟩
  · rw [q3, q4] at X'
    cases r2 with
    | inl E => cases hv1
    | inr a2 =>
      have hv1 : (Sum.inr (z_ivI a2) : String ⊕ Option Value) = Sum.inr v' := hv1
      cases hv1
      have hv2 : Outcome.returned v = Outcome.returned (z_ivI a2) := hv2
      cases hv2
      obtain ⟨t2, a1, b1⟩ := h a2 M2 T'.heap (locs ++ L) ls r M1 (by show z_Inv _ _ _ _ _; rw [e1]; exact hI') (fun q hq => by
        rcases List.mem_append.mp hq with h | h
        · exact hL q h
        · exact hL' q h) (h0.tr l1) hl (k1 a2 rfl) hK hF T' rfl X'
      exact ⟨t2, stp t2 a1, b1⟩
  · cases r2 with
    | inr a2 => cases hE
    | inl E2 =>
      have hE : (Sum.inl E2 : String ⊕ Option Value) = Sum.inl E := hE
      cases hE
      rcases hthr E with hfl | ⟨pre, x, suf, hsp, hpre, hcov, hct, hlnk, hEx, hsim⟩
      · have := k2 E rfl
        rw [hfl] at this
        cases this
      · have w : vx_W (x_p X) (x_l X) (x_e X) (x_R X) (x_s X) (x_m X) (x_args X) (x_below X) (x_meth X) (x_c X) T'.heap (locs ++ L) (z_nx M2 - z_nx (x_M0 X)) (z_sl M2 - z_sl (x_M0 X)) (vx_MQ (x_below X) (z_Qc (x_D X) (x_b X) (x_Z X) (x_MF X) (x_F X)) (z_XC (x_D X) (x_b X) (x_Z X) (x_MF X) (x_F X)) (x_args X) (x_s X) (z_nx (x_MF X) - z_nx (x_M0 X)) (z_sl (x_MF X) - z_sl (x_M0 X)) (fun q => x_b X ≤ q)) (F0 (x_m X) pc ls rest) q :=
          vx_catch (own := y.cls) (name := E) (E := E) (ce := ce) C.own pre x suf (hTb.trans hsp) (fun z hz => by
            obtain ⟨g1, nm, g2, g3, g4⟩ := hpre z hz
            exact Or.inr ⟨g1, nm, C.ws _ g2, C.G.2.2.2.2.2.2.2.2.2.2.1 E hEx nm g3 g4⟩) hcov hct (C.ws _ hlnk) (va_Nw.use rfl (C.G.2.2.2.2.2.2.2.2.1 E hEx)) (by rw [e1]; exact hce) hcv hcl
            (hsim q M2 T'.heap (locs ++ L) ls r M1 (by show z_Inv _ _ _ _ _; rw [e1]; exact hI') (fun q hq => by
              rcases List.mem_append.mp hq with h | h
              · exact hL q h
              · exact hL' q h) (h0.tr l1) hl (k2 E rfl) hK hF)
        rw [q3, q4] at X'
        obtain ⟨t2, a1, b1⟩ := w T' rfl X'
        exact ⟨t2, stp.trans a1, b1⟩
/-- a method with handlers, of the tables -/
def z_MtH (y : MethodName) (cc : ByteArray) (nL : Nat) (rt : Option FieldType) (hh : List (Nat × Nat × Nat × Nat)) (n : Nat) : Prop := Cond.codeWith y cc nL rt hh ∈ XT ∧ Cond.initialized y.cls ∈ XT ∧ y.cls ≠ "java/lang/invoke/MethodHandle" ∧ y.cls ≠ "java/lang/invoke/VarHandle" ∧ (parseMethodDescriptor y.desc).map (fun d => d.parameters.length) = some n
theorem r_cSH (C : z_Ok X y cc nL rt fr lo) {hh : List (Nat × Nat × Nat × Nat)} {idx n : Nat} (As rest : List Value) {kk : Int32 → zP β} (hx : z_KX X K) (hS : z_SoundH y2 cc2 nL2 rt2 hh fr2 lo2 As2 z_ivI prog) (hm : z_MtH y2 cc2 nL2 rt2 hh n) (hd : decode cc pc = .ok (.invokestatic idx, 3)) (hlk : Cond.methodLink y.cls idx y2 ∈ XT) (hsta : Cond.static y2 ∈ XT)
    (hAs : As2 (x_D X) (x_b X) = As) (hn : As.length = n) (hst : st = As.reverse ++ rest) (hW : (rest.map fun v => v.category).sum ≤ 8) (hroom : fr2 + 1 ≤ fr ∧ 8 + (nL2 + 11) + lo2 ≤ lo)
    (h : ∀ r, z_Sim X nL K (pc + 3) lv (.int r :: rest) (kk r)) : z_Sim X nL K pc lv st (z_bd prog kk) := by
  intro M H locs ls r M1 hI hL h0 hl hp hK hF
  obtain ⟨r2, M2, p1, l1, l2, k1, k2⟩ := z_bd_run hp
  have hMet := hS (x_l X) (x_D X) (x_b X) (x_Z X) M M2 r2 C.2.2.2.2.2.2.2.2.2.2.2.2.1 p1
  rw [hAs] at hMet
  obtain ⟨q1, q2, -, -⟩ := z_room h0 l1 (z_le.rf _) (l2.tr hF)
  subst hst
  refine z_afterRun (rest := rest) (ar := As.toArray) (r2 := r2) (iv2 := z_ivI) C hL h0 l1 (l2.tr hF) (vx_runSX (Ts := XT) (own := y.cls) ⟨C.1, C.2.1, C.2.2.1, C.own, C.ws⟩ hMet (vx_cwSW (Ts := XT) (ws' := XT) n C.ws (fun w hw => by
      have hw : w ∈ ([.methodLink y.cls idx y2, .static y2, .initialized y2.cls] : List Cond) ++ (.codeWith y2 cc2 nL2 rt2 hh :: XT) := hw
      have hw' : w ∈ XT := by
        rcases List.mem_append.mp hw with h | h
        · rcases List.mem_cons.mp h with h | h
          · rw [h]; exact hlk
          · rcases List.mem_cons.mp h with h | h
            · rw [h]; exact hsta
            · rw [List.mem_singleton.mp h]; exact hm.2.1
        · rcases List.mem_cons.mp h with h | h
          · rw [h]; exact hm.1
          · exact h
      exact ⟨hw', XT_good _ hw'⟩) rfl rfl rfl ⟨hm.2.2.1, hm.2.2.2.1, hm.2.2.2.2⟩ (by rw [C.2.2.2.2.2.2.2.2.1, C.2.2.2.2.2.2.2.2.2.1]; exact hroom)) ⟨z_blind, z_pre C hI⟩ rfl hn hl.1 rfl (by show 2 * 0 + _ ≤ 8; omega) hd ⟨Nat.le_trans q1 C.2.2.2.2.2.2.2.2.2.2.1, Nat.le_trans q2 C.2.2.2.2.2.2.2.2.2.2.2.1⟩) ?_ ?_
  · intro a2 e H' locs' hI' hL'
    exact h a2 M2 H' locs' ls r M1 hI' hL' (h0.tr l1) hl (k1 a2 e) hK hF
  · intro E e
    obtain ⟨e1, e2⟩ := k2 E e
    subst e1
    rw [e2]
    exact ⟨hx.1 E M1 hK, hx.2⟩
/-- the script: an old array of ints -/
def z_xs (xs : Nat → Int32) (L : Nat) (i : Int32) : zP Int32 := if ¬ i < 0 ∧ i.toNatClampNeg < L then z_pu (xs i.toNatClampNeg) else z_fl
theorem r_sld (C : z_Ok X y cc nL rt fr lo) {sb L : Nat} {xs : Nat → Int32} {i : Int32} {kk : Int32 → zP β} (hX : va_X sb L xs (x_s X) (x_s X).heap) (hsb : sb < x_b X) (hd : decode cc pc = .ok (.iaload, 1)) (h : ∀ v, z_Sim X nL K (pc + 1) lv (.int v :: st) (kk v)) : z_Sim X nL K pc lv (.int i :: .ref sb :: st) (z_bd (z_xs xs L i) kk) := by
  unfold z_xs
  by_cases hi : ¬ i < 0 ∧ i.toNatClampNeg < L
  · rw [if_pos hi]
    intro M H locs ls r M1 hI hL h0 hl hp hK hF
    have hlt : sb < (x_s X).heap.size := by
      obtain ⟨scr, h1, -⟩ := hX
      exact (Array.getElem?_eq_some_iff.mp h1).1
    exact va_sld (A := fun q => x_b X ≤ q) C.1 C.2.1 hX hlt (Nat.not_le.mpr hsb) (z_hS C hI h0 hL) (fun q => q.elim hi.1 (Nat.not_le.mpr hi.2)) hd (h _ M H locs ls r M1 hI hL h0 hl hp hK hF)
  · rw [if_neg hi]
    exact fun M H locs ls r M1 hI hL h0 hl hp hK hF => by cases hp
theorem r_sln (C : z_Ok X y cc nL rt fr lo) {sb L : Nat} {xs : Nat → Int32} (hX : va_X sb L xs (x_s X) (x_s X).heap) (hsb : sb < x_b X) (hd : decode cc pc = .ok (.arraylength, 1)) (h : z_Sim X nL K (pc + 1) lv (.int (nI L) :: st) g) : z_Sim X nL K pc lv (.ref sb :: st) g := by
  intro M H locs ls r M1 hI hL h0 hl hp hK hF
  have hlt : sb < (x_s X).heap.size := by
    obtain ⟨scr, h1, -⟩ := hX
    exact (Array.getElem?_eq_some_iff.mp h1).1
  exact va_slen (A := fun q => x_b X ≤ q) C.1 C.2.1 hX hlt (Nat.not_le.mpr hsb) (z_hS C hI h0 hL) hd (h M H locs ls r M1 hI hL h0 hl hp hK hF)
end ZI
