/-! ===== rows: arraycopy, throws, calls ===== -/
section ZT
variable {p : Program} {l : Launch} {e : Env} {R : Room} {s : State} {m : MethodId} {args : Array Value} {below : List Frame} {meth : Method} {c : Code} {H : Heap} {locs : List Loc} {cells slots : Nat} {Q : State → Prop}
variable {mc ms : Nat} {free : Addr → Prop} {A0 A1 : Nat → Prop} {H0 : Heap} {a : Array Value} {ls : Array Slot} {st0 rest : List Value}
variable {Qc : Array Value → State → Outcome → State → Prop} {XC : String → State → State → Prop}
theorem z_throwS {cc : ByteArray} {pc : Nat} (hexec : p.tables.exec = Jvm.exec) (hb : c.code = cc) (hl : l.stackTraces = false) {own cls text : String} {names : List String} {ik is ic mc ms sa : Nat} {A : Nat → Prop}
    (hown : s.vm.findClass own = some m.cls) (hcls : Bundle.fit cls = true) (hnames : ∀ n ∈ names, Bundle.fit n = true)
    (hk : (Cond.classLink own ik cls).before args s = true) (hini : (Cond.initialized cls).before args s = true) (hstr : vk_R own is text sa s) (hat : ∀ w ∈ vx_atS own ic cls names, w.before args s = true)
    (hgood : ∀ w ∈ Cond.classLink own ik cls :: Cond.initialized cls :: vx_atS own ic cls names, vx_ot w = true)
    (hU : vx_Zq Bundle.tN "UNASSIGNED_STACK" Bundle.steD A s s.heap) (hN : vx_Zq Bundle.tN "SUPPRESSED_SENTINEL" Bundle.listD A s s.heap) (hS : va_S A s.heap H locs) (hsize : ls.size = c.maxLocals)
    (d0 : decode cc pc = .ok (.new ik, 3)) (d3 : decode cc (pc + 3) = .ok (.dup, 1)) (d4 : decode cc (pc + 4) = .ok (.ldc is, 2)) (d6 : decode cc (pc + 6) = .ok (.invokespecial ic, 3)) (d9 : decode cc (pc + 9) = .ok (.athrow, 1))
    (hout : ∀ x ∈ c.exceptionTable.toList, covers x (pc + 9) = false)
    (hRframes : names.length + 3 < R.frames) (hRlocals : (rest.map fun v => v.category).sum + (13 * (names.length + 1) + 43) ≤ R.locals) (hRcells : cells + 1 ≤ R.cells) (hRslots : slots + 6 ≤ R.slots) (hlocks : meth.locks = false)
    (hx : ∀ t : State, s.vm.Alike t.vm → t.heap.size = H.size + 1 → (∀ q : Nat, q < H.size → t.heap[q]? = H[q]?) → XC cls s t)
    (hf : ∀ z ∈ locs, free z.base) (hc : cells + 1 ≤ mc) (hs : slots + 6 ≤ ms) :
    W p l e R s m args below meth c H locs cells slots (vx_MQ below Qc XC args s mc ms free) (F0 m pc ls rest) := by
  intro T hT X
  have htr : e.platform.stackTraces = false := (show e.platform.stackTraces = l.stackTraces by rw [X.admits.platform]).trans hl
  have Y := vx_rebase X (R' := { frames := R.frames, locals := R.locals, cells := 1, slots := 6 }) (Nat.le_refl _) (Nat.le_refl _) hRcells hRslots
  obtain ⟨s', hA⟩ : ∃ z, z = (T.setVm s.vm).setFrames (.invoking m args :: below) := ⟨_, rfl⟩
  rw [← hA] at Y
  have hvm : s'.vm = s.vm := by rw [hA]; rfl
  have hhp : s'.heap = H := by rw [hA]; exact hT
  have hW0 : s.WarmedH s'.vm := by rw [hvm]; exact State.WarmedH.refl s
  have hat' : ∀ w ∈ vx_atS own ic cls names, w.before args s' = true := fun w hw => vx_ot_at hW0 hvm.symm (hgood w (List.mem_cons_of_mem _ (List.mem_cons_of_mem _ hw))) (hat w hw)
  have hk' : (Cond.classLink own ik cls).before args s' = true := vx_ot_at hW0 hvm.symm (hgood _ List.mem_cons_self) hk
  have hini' : (Cond.initialized cls).before args s' = true := vx_ot_at hW0 hvm.symm (hgood _ (List.mem_cons_of_mem _ List.mem_cons_self)) hini
  have hU' : vx_Zq Bundle.tN "UNASSIGNED_STACK" Bundle.steD A s' s'.heap := by rw [hhp]; exact vx_Zq.moved hW0.alike (hU.kept hS.2.1)
  have hN' : vx_Zq Bundle.tN "SUPPRESSED_SENTINEL" Bundle.listD A s' s'.heap := by rw [hhp]; exact vx_Zq.moved hW0.alike (hN.kept hS.2.1)
  have h : ∀ w ∈ Bundle.ownAtoms own ic cls names, w.before args s' = true := vx_own hat' (vx_isRefq hU'.1) (vx_isRefq hN'.1) hU'.2.word hN'.2.word
  have hown' : s'.vm.findClass own = some m.cls := by rw [hvm]; exact hown
  have hins : (Cond.instantiable cls 6).before args s' = true := h _ (by simp [Bundle.ownAtoms])
  obtain ⟨vm₁, cX, kX, hfX, hkX, -, -, X₁, st1⟩ := Y.newCold hexec (own := own) (C := cls) (index := ik) (n := 6) hown' hk' hins hini'
    (g := F0 m pc ls rest) rfl (by rw [hb]; exact d0) (Nat.le_refl _) (Nat.le_refl _)
  generalize hT1 : (T.setVm vm₁).pushCell { cls := cX, slots := kX.instanceTypes.map defaultValue, vm := .none } = T1 at X₁ st1
  have hcat : (Value.ref T.heap.size).category = 1 := rfl
  have hcellA : T1.heap[T.heap.size]? = some (freshCell cX kX) := by rw [← hT1]; exact State.heap_pushCell_size _ _
  have d3' : decode c.code (pc + 3) = .ok (.dup, 1) := by rw [hb]; exact d3
  have d4' : decode c.code (pc + 4) = .ok (.ldc is, 2) := by rw [hb]; exact d4
  have hstr' : vk_R own is text sa s' := vk_R.warm hW0 hstr
  obtain ⟨U, hsteps, hrun, hend, hW, hsame, ce, hce, hO⟩ := X₁.ctorThrowS hexec htr (own := own) (cls := cls) (names := names) (ic := ic) hown' hcls hnames h (fun x hx => nomatch hx) hfX hkX hcellA (by rw [hhp, hT]; exact Nat.le_refl _) (msg := .ref sa) rfl
    (g := { method := m, pc := pc + 6, locals := ls, stack := .ref sa :: .ref T.heap.size :: .ref T.heap.size :: rest, locked := none }) rfl hsize rfl rfl (rest := rest) rfl
    (by rw [hb]; exact d6) (by rw [hb]; exact d9) hout hRframes (by simp only [List.map_cons, List.sum_cons, hcat]; omega) hlocks
  obtain ⟨f1, f2⟩ := vx_frame hsame
  rw [hhp] at f1 f2
  have fz : U.heap.size = H.size + 1 := by
    have q1 : U.heap.size ≤ s'.heap.size + (0 + 1) := hsame.2.2.1
    have q2 : T.heap.size < U.heap.size := (Array.getElem?_eq_some_iff.mp hce).1
    rw [hhp] at q1
    rw [hT] at q2
    omega
  have hWs : s.WarmedH U.vm := State.WarmedH.trans hW0 hW
  have hcl : s.vm.findClass cls = some ce.cls := by
    have h9 := hO.cls
    rw [hvm] at h9
    exact h9
  have hall : s.sameButNew ({ U with vm := s.vm } : State) locs mc ms := by
    subst hA
    obtain ⟨e1, e2⟩ := hsame
    rw [State.setFrames_setFrames] at e1
    have h2 : (T.setVm s.vm).sameButNew ({ U with vm := s.vm } : State) [] (0 + 1) (0 + 6) := ⟨e1, e2⟩
    have h3 := X.same.trans h2
    rw [List.append_nil] at h3
    exact h3.mono hc hs
  refine ⟨U, ?_, .threw T.heap.size, hrun, hend, Or.inr ⟨T.heap.size, rfl, cls, ce, locs, hx U hWs.alike fz (fun q hq => f2 q hq (fun z hz => nomatch hz)), hce, hO.vm, hcl, hWs, hall, hf⟩⟩
  refine st1 _ ?_
  show Steps p.tables e below (T1.setTop { method := m, pc := pc + 3, locals := ls, stack := .ref T.heap.size :: rest, locked := none }) _
  jvm_step X₁.here [X₁.here.top, hexec, d3', Value.category]
  exact X₁.ldcString hexec (own := own) (text := text) (index := is) (a := sa) hown' hstr'.1 hstr'.2
    (g := { method := m, pc := pc + 4, locals := ls, stack := .ref T.heap.size :: .ref T.heap.size :: rest, locked := none }) rfl d4' _ hsteps
end ZT
section ZCP
variable {β : Type} {X : zX} {y : MethodName} {cc : ByteArray} {nL : Nat} {rt : Option FieldType} {fr lo : Nat} {K : String ⊕ β → zM → Prop} {pc : Nat} {lv : List (Nat × Value)} {st : List Value} {g : zP β}
theorem z_nn0 (z : Int32) (hz : ¬ z < 0) : z.toInt = (z.toNatClampNeg : Int) := by
  have hz0 : (0 : Int) ≤ z.toInt := by
    have := Int32.not_lt.mp hz
    simpa using Int32.le_iff_toInt_le.mp this
  show z.toInt = ((z.toInt.toNat : Nat) : Int)
  omega
theorem r_copy (C : z_Ok X y cc nL rt fr lo) {idx a0 a : Nat} {sp dp n : Int32} {kk : Unit → zP β} (hd : decode cc pc = .ok (.invokestatic idx, 3)) (hlk : Cond.methodLink y.cls idx arraycopyName ∈ XT) (hnat : Cond.native arraycopyName ∈ XT) (hst : Cond.static arraycopyName ∈ XT) (hini : Cond.initialized "java/lang/System" ∈ XT) (hfr : 1 ≤ fr) (hlo : (st.map fun v => v.category).sum + (nativeFrameWords "java/lang/System" "arraycopy" 5 + 11) ≤ lo)
    (h : z_Sim X nL K (pc + 3) lv st (kk ())) : z_Sim X nL K pc lv (.int n :: .int dp :: .ref (x_b X + a) :: .int sp :: .ref (x_b X + a0) :: st) (z_bd (z_cp a0 sp a dp n) kk) := by
  intro M H locs ls r M1 hI hL h0 hl hp hK hF
  obtain ⟨⟨g0, g1, h1, h2, h3, h4, h5⟩, hp⟩ := z_gs_inv hp
  have hc0 := z_Inv.arr hI (c := 11) (by decide) g0
  have hc1 := z_Inv.arr hI (c := 11) (by decide) g1
  have ev : ∀ q : Nat, z_ev (x_b X) M 11 q = fun j => .int (z_i M q j) := fun q => rfl
  rw [ev] at hc0 hc1
  intro T hT Xs
  obtain ⟨-, k0, hk0, cm0, hkk0⟩ := (C.aty (c := 11) (ty := .int) rfl).1 (z_ln M a0) (fun j => .int (z_i M a0 j))
  obtain ⟨-, k1, hk1, cm1, hkk1⟩ := (C.aty (c := 11) (ty := .int) rfl).1 (z_ln M a) (fun j => .int (z_i M a j))
  obtain ⟨vm', X', step⟩ := Xs.arraycopy C.1 C.own (C.ws _ hlk) (C.ws _ hnat) (C.ws _ hst) (C.ws _ hini) (src := x_b X + a0) (dst := x_b X + a) (cs := arrV ((x_D X).2.2.1 11) (z_ln M a0) (fun j => .int (z_i M a0 j))) (cd := arrV ((x_D X).2.2.1 11) (z_ln M a) (fun j => .int (z_i M a j))) (srcPos := sp) (destPos := dp) (n := n) (by rw [hT]; exact hc0) (by rw [hT]; exact hc1)
    (fun _ h => by cases h) (fun _ h => by cases h) (fun h => by cases h) (fun h => by cases h) hk0 hk1 hkk0 hkk1 (by simp [refKind]) h1 h2 h3
    (by rw [z_nn0 sp h1, z_nn0 n h3, arrV_size]; omega)
    (by rw [z_nn0 dp h2, z_nn0 n h3, arrV_size]; omega)
    (fun vm₁ _ i hi => by
      have e : (arrV ((x_D X).2.2.1 11) (z_ln M a0) (fun j => .int (z_i M a0 j))).slots.getD (sp.toNatClampNeg + i) .null = .int (z_i M a0 (sp.toNatClampNeg + i)) := by
        rw [Array.getD_eq_getD_getElem?, arrV_read _ _ (by omega)]
        rfl
      refine ⟨?_, ?_⟩
      · rw [e]
        rfl
      · rw [e]
        exact trivial)
    (g := F0 (x_m X) pc ls (.int n :: .int dp :: .ref (x_b X + a) :: .int sp :: .ref (x_b X + a0) :: st)) rfl (by rw [C.2.2.1]; exact hl.1) (rest := st) rfl (by rw [C.2.1]; exact hd) (by rw [C.2.2.2.2.2.2.2.2.1]; exact hfr) (by rw [C.2.2.2.2.2.2.2.2.2.1]; show 2 * 0 + _ + _ ≤ lo; omega)
  have e1 : copied (arrV ((x_D X).2.2.1 11) (z_ln M a0) (fun j => .int (z_i M a0 j))) (arrV ((x_D X).2.2.1 11) (z_ln M a) (fun j => .int (z_i M a j))) sp dp n = arrV ((x_D X).2.2.1 11) (z_ln M a) (fun j => .int (va_cpy (z_i M a0) (z_i M a) sp.toNatClampNeg dp.toNatClampNeg n.toNatClampNeg j)) := va_copied (fun z => .int z) _ _ (z_i M a0) (z_i M a) h4
  rw [e1] at X' step
  have hl9 : x_b X + a < H.size := (Array.getElem?_eq_some_iff.mp hc1).1
  have hheap : ((T.setVm vm').setCell (x_b X + a) (arrV ((x_D X).2.2.1 11) (z_ln M a) (fun j => .int (va_cpy (z_i M a0) (z_i M a) sp.toNatClampNeg dp.toNatClampNeg n.toNatClampNeg j)))).heap = H.setIfInBounds (x_b X + a) (arrV ((x_D X).2.2.1 11) (z_ln M a) (fun j => .int (va_cpy (z_i M a0) (z_i M a) sp.toNatClampNeg dp.toNatClampNeg n.toNatClampNeg j))) := by rw [← hT]; rfl
  have oq : ∀ q : Nat, q ≠ x_b X + a → (H.setIfInBounds (x_b X + a) (arrV ((x_D X).2.2.1 11) (z_ln M a) (fun j => .int (va_cpy (z_i M a0) (z_i M a) sp.toNatClampNeg dp.toNatClampNeg n.toNatClampNeg j))))[q]? = H[q]? := fun q hq => by simp [Array.getElem?_setIfInBounds, Ne.symm hq]
  have hI' : x_Inv X (z_wI M a (va_cpy (z_i M a0) (z_i M a) sp.toNatClampNeg dp.toNatClampNeg n.toNatClampNeg)) (H.setIfInBounds (x_b X + a) (arrV ((x_D X).2.2.1 11) (z_ln M a) (fun j => .int (va_cpy (z_i M a0) (z_i M a) sp.toNatClampNeg dp.toNatClampNeg n.toNatClampNeg j)))) := by
    refine z_Inv.set hI rfl (by simp) oq rfl rfl (fun x hx => z_up1_ne hx) (fun _ _ => rfl) (fun _ _ => rfl) ?_
    unfold z_at
    have hk9 : z_kd (z_wI M a (va_cpy (z_i M a0) (z_i M a) sp.toNatClampNeg dp.toNatClampNeg n.toNatClampNeg)) a = 11 := g1.2
    rw [hk9, if_neg (by decide), if_pos (by decide)]
    rw [show (H.setIfInBounds (x_b X + a) (arrV ((x_D X).2.2.1 11) (z_ln M a) (fun j => .int (va_cpy (z_i M a0) (z_i M a) sp.toNatClampNeg dp.toNatClampNeg n.toNatClampNeg j))))[x_b X + a]? = some (arrV ((x_D X).2.2.1 11) (z_ln M a) (fun j => .int (va_cpy (z_i M a0) (z_i M a) sp.toNatClampNeg dp.toNatClampNeg n.toNatClampNeg j))) by simp [Array.getElem?_setIfInBounds, hl9]]
    congr 2
    funext j
    unfold z_ev
    rw [show z_i (z_wI M a (va_cpy (z_i M a0) (z_i M a) sp.toNatClampNeg dp.toNatClampNeg n.toNatClampNeg)) a = va_cpy (z_i M a0) (z_i M a) sp.toNatClampNeg dp.toNatClampNeg n.toNatClampNeg from if_pos rfl]
    rfl
  obtain ⟨t, a1, b1⟩ := h _ _ _ ls r M1 hI' (fun q hq => by
      rcases List.mem_append.mp hq with h | h
      · exact hL q h
      · obtain ⟨z, -, hz⟩ := List.mem_map.mp h
        rw [← hz]
        exact Nat.le_add_right _ _) h0 hl hp hK hF _ hheap X'
  exact ⟨t, step t a1, b1⟩
/-- the words of a throw out of own -/
def z_TW (own : String) (ic : Nat) (E : String) : Prop := ∀ w ∈ (vx_atS own ic E ["java/lang/RuntimeException", "java/lang/Exception"]).filter goodWord, w ∈ XT
theorem r_throw (C : z_Ok X y cc nL rt fr lo) {ik is ic i : Nat} {E text : String} (hx : z_KX X K) (d0 : decode cc pc = .ok (.new ik, 3)) (d3 : decode cc (pc + 3) = .ok (.dup, 1)) (d4 : decode cc (pc + 4) = .ok (.ldc is, 2)) (d6 : decode cc (pc + 6) = .ok (.invokespecial ic, 3)) (d9 : decode cc (pc + 9) = .ok (.athrow, 1))
    (hE : E ∈ z_exc) (hks : z_ks[i]? = some (y.cls, is, text)) (hlk : Cond.classLink y.cls ik E ∈ XT) (hini : Cond.initialized E ∈ XT) (hTW : z_TW y.cls ic E)
    (hodd : ∀ w ∈ (vx_atS y.cls ic E ["java/lang/RuntimeException", "java/lang/Exception"]).filter (fun w => !goodWord w), w ∈ Cond.castable E E :: z_dcls.map (fun q => Cond.declares (Bundle.initS q)))
    (hot : ∀ w ∈ Cond.classLink y.cls ik E :: Cond.initialized E :: vx_atS y.cls ic E ["java/lang/RuntimeException", "java/lang/Exception"], vx_ot w = true) (hft : Bundle.fit E = true)
    (hfr : 5 < fr) (hlo : (st.map fun v => v.category).sum + 82 ≤ lo) : z_Sim X nL K pc lv st (z_th E) := by
  intro M H locs ls r M1 hI hL h0 hl hp hK hF
  have hp : some ((Sum.inl E : String ⊕ β), z_mk M 99 0 6) = some (r, M1) := hp
  cases hp
  obtain ⟨hM, hv⟩ := hx.1 E _ hK
  obtain ⟨r1, r2, r3, r4⟩ := z_room h0 (z_mk_le (k := 99) (n := 0) (w := 6)) (z_le.rf _) hF
  rw [z_mk_room.1] at r1 r3
  rw [z_mk_room.2] at r2 r4
  have hbsz : (x_b X) ≤ (x_s X).heap.size := by
    have := C.2.2.2.2.2.2.2.2.2.2.2.2.2.2.2.1
    omega
  have h0I : x_Inv X (x_M0 X) (x_s X).heap := C.2.2.2.2.2.2.2.2.2.2.2.2.2.2.2
  have hZ : ∀ a : Nat, a < (x_Z X).size → ¬ x_b X ≤ a → (x_s X).heap[a]? = (x_Z X)[a]? := fun a _ ha => h0I.2.2.1 a (by omega)
  have hS : va_S (fun q => x_b X ≤ q) (x_s X).heap H locs := by
    refine ⟨?_, fun q hq hn => ?_, hL⟩
    · rw [h0I.1, hI.1]
      have := h0.1
      omega
    · rw [hI.2.2.1 q (by omega), h0I.2.2.1 q (by omega)]
  refine z_throwS (text := text) (sa := (x_D X).2.2.2.1 i) (names := ["java/lang/RuntimeException", "java/lang/Exception"]) (A := fun q => x_b X ≤ q) C.1 C.2.1 C.2.2.2.2.2.2.2.2.2.2.2.2.1 C.own hft (by decide) (C.ws _ hlk) (C.ws _ hini) (C.G.2.2.2.2.1 i _ hks)
    (vx_hat (fun w hw => C.ws _ (hTW w hw)) hodd (vx_c (va_Nw.use rfl (C.G.2.2.2.2.2.2.2.2.1 E hE)) (fun w hw => by
      obtain ⟨q, hq, rfl⟩ := List.mem_map.mp hw
      exact va_Nw.use rfl (C.G.2.2.2.2.2.2.2.2.2.1 q hq)))) hot (C.G.2.1.kept hZ) (C.G.2.2.1.kept hZ) hS (by rw [C.2.2.1]; exact hl.1) d0 d3 d4 d6 d9 (fun x hx9 => (hx.2 x hx9).elim) (by rw [C.2.2.2.2.2.2.2.2.1]; exact hfr) (by rw [C.2.2.2.2.2.2.2.2.2.1]; exact hlo)
    (Nat.le_trans r1 C.2.2.2.2.2.2.2.2.2.2.1) (Nat.le_trans r2 C.2.2.2.2.2.2.2.2.2.2.2.1) C.2.2.2.2.2.1 (fun t _ hz hq => ⟨hv, ?_⟩) hL r1 r2
  rw [← hM]
  refine z_Inv.push hI hz hq ?_
  unfold z_at
  have hk0 : z_kd (z_mk M 99 0 6) (z_nx M) = 99 := if_pos rfl
  rw [hk0, if_neg (by decide), if_neg (by decide)]
  trivial
end ZCP
