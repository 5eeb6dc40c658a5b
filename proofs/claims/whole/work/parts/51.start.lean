/-- the classes and the array classes -/
theorem z_startK {args : Array Value} {s : State} (hts : ∀ w ∈ lw_tbl, w.before args s = true) : ∃ (dC : Nat → ClassId) (dI : Nat → Nat → Nat) (dA : Nat → ClassId), ∀ adK adV : Nat → Nat, va_K (z_DD (dC, dI, dA, adK, adV)) vwCl (z_tys (dC, dI, dA, adK, adV)) s := by
  obtain ⟨i0, i1, i2, i3, i4, i5, i6, i7, i8, i9⟩ := zt_in
  obtain ⟨c0, f0, k0⟩ := u_known (C := RX0) (T := TX0) (N := 18) (n := 18) hts hx_X0 (hts _ i0)
  obtain ⟨c1, f1, k1⟩ := u_known (C := RX1) (T := TX1) (N := 14) (n := 14) hts hx_X1 (hts _ i1)
  obtain ⟨c2, f2, k2⟩ := u_known (C := RX2) (T := TX2) (N := 3) (n := 3) hts hx_X2 (hts _ i2)
  obtain ⟨c3, f3, k3⟩ := u_known (C := RX3) (T := TX3) (N := 3) (n := 3) hts hx_X3 (hts _ i3)
  obtain ⟨c4, f4, k4⟩ := u_known (C := RX4) (T := TX4) (N := 2) (n := 2) hts hx_X4 (hts _ i4)
  obtain ⟨c5, f5, k5⟩ := u_known (C := RX5) (T := TX5) (N := 13) (n := 13) hts hx_X5 (hts _ i5)
  obtain ⟨c6, f6, k6⟩ := u_known (C := RX6) (T := TX6) (N := 12) (n := 12) hts hx_X6 (hts _ i6)
  obtain ⟨c7, f7, k7⟩ := u_known (C := RX7) (T := TX7) (N := 8) (n := 8) hts hx_X7 (hts _ i7)
  obtain ⟨c8, f8, k8⟩ := u_known (C := RX8) (T := TX8) (N := 11) (n := 11) hts hx_X8 (hts _ i8)
  obtain ⟨c9, f9, k9⟩ := u_known (C := RX9) (T := TX9) (N := 34) (n := 34) hts hx_X9 (hts _ i9)
  have arr : ∀ ty : FieldType, Cond.arrayClass ty ∈ lw_tbl → (∀ C, ty ≠ .object C) → ∃ cA : ClassId, ArrOfT s cA ty ∧ va_RA s cA ty := by
    intro ty h hno
    obtain ⟨cA, kA, comp, g1, g2, g3⟩ := Cond.arrayClass_spec (hts _ h)
    refine ⟨cA, fun n z => ⟨fun k h => (by cases h), kA, g2, comp, g3⟩, ?_⟩
    cases ty with
    | object C => exact absurd rfl (hno C)
    | _ => exact g1
  have arro : ∀ C : String, Cond.arrayOver (.object C) ∈ lw_tbl → ∃ cA : ClassId, ArrOfT s cA (.object C) ∧ va_RA s cA (.object C) := by
    intro C h
    obtain ⟨comp, cA, kA, g1, -, g2, g3, g4⟩ := Cond.arrayOver_spec (hts _ h)
    exact ⟨cA, fun n z => ⟨fun k h => (by cases h), kA, g2, comp, g3⟩, kA, comp, g2, g3, g1, g4⟩
  obtain ⟨w1, w2, w3, w4⟩ := zt_w4
  obtain ⟨a10, h10⟩ := arr .byte w1 (fun C h => by cases h)
  obtain ⟨a11, h11⟩ := arr .int w2 (fun C h => by cases h)
  obtain ⟨a12, h12⟩ := arr .boolean w3 (fun C h => by cases h)
  obtain ⟨a15, h15⟩ := arr .long w4 (fun C h => by cases h)
  obtain ⟨a13, h13⟩ := arro RX5 zt_w3.1
  obtain ⟨a14, h14⟩ := arro RX7 zt_w3.2.1
  refine ⟨fun c => match c with | 0 => c0 | 1 => c1 | 2 => c2 | 3 => c3 | 4 => c4 | 5 => c5 | 6 => c6 | 7 => c7 | 8 => c8 | _ => c9, fun c => match c with | 0 => f0 | 1 => f1 | 2 => f2 | 3 => f3 | 4 => f4 | 5 => f5 | 6 => f6 | 7 => f7 | 8 => f8 | _ => f9,
    fun c => match c with | 10 => a10 | 11 => a11 | 12 => a12 | 13 => a13 | 14 => a14 | _ => a15, fun adK adV => ⟨fun c q hq => ?_, fun k q hk => ?_⟩⟩
  · match c, hq with
    | 0, hq => cases hq; exact k0
    | 1, hq => cases hq; exact k1
    | 2, hq => cases hq; exact k2
    | 3, hq => cases hq; exact k3
    | 4, hq => cases hq; exact k4
    | 5, hq => cases hq; exact k5
    | 6, hq => cases hq; exact k6
    | 7, hq => cases hq; exact k7
    | 8, hq => cases hq; exact k8
    | 9, hq => cases hq; exact k9
  · match k, hk with
    | 0, hk => cases hk; exact h10
    | 1, hk => cases hk; exact h11
    | 2, hk => cases hk; exact h12
    | 3, hk => cases hk; exact h13
    | 4, hk => cases hk; exact h14
    | 5, hk => cases hk; exact h15
theorem z_startG {args : Array Value} {s : State} (hts : ∀ w ∈ lw_tbl, w.before args s = true) (hg : (Jvm.Cond.and given_1 narrow_1).before args s = true) : ∃ D : zD, z_G D s.heap.size s.heap s := by
  have hf := flat_of_before _ hg
  have hA : ∀ a : Nat, a < s.heap.size → ¬ (fun q => s.heap.size ≤ q) a := fun a h => Nat.not_le.mpr h
  obtain ⟨adK, adV, hS, hev⟩ := vk_Sof (N := 25) (tm := z_tm) (len := z_slen) (byt := z_sbyt) (A := fun q => s.heap.size ≤ q) (fun i _ => by have := z_slen_lt i; omega) (fun i hi => hf _ (zt_ex i hi)) (fun i hi => hf _ (zt_co i hi)) (fun i hi => hf _ (zt_ar i hi)) (fun i hi => hf _ (zt_le i hi)) (fun i hi j hj => hf _ (zt_el i hi j hj)) (fun i j hi hj hne => (zt_ne i hi j hj hne).elim (fun h => Or.inl (hf _ h)) (fun h => Or.inr (hf _ h))) hA
  obtain ⟨dC, dI, dA, hK⟩ := z_startK hts
  refine ⟨(dC, dI, dA, adK, adV), hK adK adV, vx_Zqof (hts _ zt_w1.1) (hts _ zt_w1.2.1) (hf _ zt_r1) hA, vx_Zqof (hts _ zt_w1.2.2) (hts _ zt_w1.2.1) (hf _ zt_r2) hA, hS, fun i q hq => ?_, ?_⟩
  · have hi : i < 25 := (List.getElem?_eq_some_iff.mp hq).1
    have e := hev i hi
    have hw := hts _ (zt_ks q (List.mem_of_getElem? hq))
    unfold z_tm at e
    rw [List.getD_eq_getElem?_getD, hq] at e
    refine vk_R.of (A := args) hw ?_
    exact e
  · exact ⟨va_AO.of (hts _ zt_w3.1), va_AO.of (hts _ zt_w3.2.1), fun q hq => va_Nw.of rfl (hts _ (zt_w3.2.2.1 q hq)), fun E hE => va_Nw.of rfl (hts _ (zt_w3.2.2.2.1 E hE)), fun E hE => va_Nw.of rfl (hts _ (zt_w3.2.2.2.2 E hE)), fun E hE E' hE' hne => va_Nc.of (hf _ (zt_nc E hE E' hE' hne)),
      va_Zof (hts _ zt_w2.1) (hts _ zt_w2.2.1) (va_eqt (hf _ zt_st)) hA, va_Zqof (hts _ zt_w2.2.2.1) (hts _ zt_w2.2.2.2) (hf _ zt_r3) hA⟩
theorem z_same_forget {s t : State} {L : List Loc} {k n k' n' : Nat} (h : s.sameButNew t L k n) (hL : ∀ q ∈ L, s.heap.size ≤ q.base) (hk : k ≤ k') (hn : n ≤ n') : s.sameButNew t [] k' n' := by
  obtain ⟨h1, h2, h3, h4, h5, h6⟩ := h
  refine ⟨h1, h2, by omega, h4, by omega, fun a c hc => ?_⟩
  obtain ⟨c', g1, g2, g3, g4⟩ := h6 a c hc
  have ha : a < s.heap.size := (Array.getElem?_eq_some_iff.mp hc).1
  exact ⟨c', g1, g2, g3, fun i _ => g4 i (fun hm => by have := hL _ hm; exact absurd ha (Nat.not_lt.mpr this))⟩
theorem z_flags {l : Launch} (h : l.flags = flags0) : l.stackTraces = false := by
  unfold Launch.stackTraces
  rw [h]
  decide +kernel
def lw_Q (_ : Array Value) (s : State) (o : Outcome) (t : State) : Prop := o = .returned (some (.int 1)) ∧ Framed s o t [] 601024 7293034
def lw_Z (below : List Frame) (a : Array Value) (s : State) : State → Prop := fun t => ∃ o, t.status = .running ∧ Ended t below o ∧ lw_Q a s o t
/-- what holds at the law's entry -/
def lw_At (p : Program) (s : State) (m : MethodId) (meth : Method) (c : Code) (b L : Nat) (xs : Nat → Int32) : Prop :=
  p.tables.exec = Jvm.exec ∧ c.code = code ∧ meth.sig.returnType = ret ∧ c.maxLocals = 7 ∧ s.vm.findClass RL = some m.cls ∧ (∀ w ∈ lw_tbl, w.before #[Value.ref b] s = true) ∧ va_X b L xs s s.heap ∧ b < s.heap.size ∧ meth.locks = false ∧ (Jvm.Cond.and given_1 narrow_1).before #[Value.ref b] s = true ∧ (∀ x ∈ c.exceptionTable.toList, False) ∧ meth.name = "law"
theorem z_start {p : Program} {e : Env} {s : State} {m : MethodId} {below : List Frame} {meth : Method} {c : Code} (l : Launch) (hflags : l.flags = flags0) {b L : Nat} {xs : Nat → Int32} (C0 : lw_At p s m meth c b L xs) {MF : zM} (hp : (p_L_law xs L).1 z_M0 = some (.inr 1, MF)) (h1 : z_nx MF ≤ 601024) (h2 : z_sl MF ≤ 7293034) : W p l e room_1 s m #[Value.ref b] below meth c s.heap [] 0 0 (lw_Z below #[Value.ref b] s) (entryFrame m ([Value.ref b] : List Value).toArray 7) := by
  obtain ⟨q1, q2, q3, q4, q5, q6, q7, q8, q9, q10, q11, q12⟩ := C0
  obtain ⟨D, hG⟩ := z_startG q6 q10
  have hI : z_Inv D s.heap.size s.heap z_M0 s.heap := ⟨rfl, rfl, fun _ _ => rfl, fun a ha => absurd ha (Nat.not_lt_zero a)⟩
  have C : z_Ok ((p, l, e, room_1, s, m, #[Value.ref b], below, meth, c), (D, s.heap.size, s.heap, z_M0, MF, .inr (some (.int 1)))) x code 7 ret 2048 84000 :=
    ⟨q1, q2, q4, q5, fun w hw => q6 w (List.mem_filter.mp hw).1, q9, trivial, hG, rfl, rfl, h1, h2, z_flags hflags, q12, q3, hI⟩
  have sim := s_L_law C q11 q7 q8
  have hl := lv_entry ([Value.ref b]) (n := 7) (Nat.le_of_ble_eq_true rfl)
  rw [lg_entry_eq]
  have w := sim z_M0 s.heap [] _ (.inr 1) MF hI (fun q hq => by cases hq) (z_le.rf _) hl hp ⟨rfl, rfl⟩ (z_le.rf _)
  intro T hT Xs
  obtain ⟨t, st, o, r1, r2, r3⟩ := w T hT Xs
  refine ⟨t, st, o, r1, r2, ?_⟩
  rcases r3 with ⟨⟨v, hv, ho, -⟩, Lc, ⟨g1, g2, g3⟩, hLc⟩ | ⟨q, -, E, ce, Lc, ⟨hE, -⟩, -⟩
  · have hv : (Sum.inr (some (Value.int 1)) : String ⊕ Option Value) = Sum.inr v := hv
    cases hv
    exact ⟨ho, g1, g2, z_same_forget g3 hLc (by exact h1) (by exact h2)⟩
  · cases hE
