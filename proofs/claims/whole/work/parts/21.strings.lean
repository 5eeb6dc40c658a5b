/-! ===== throws with a wide text, Strings ===== -/
section ZT
variable {p : Program} {l : Launch} {e : Env} {R : Room} {s : State} {m : MethodId} {args : Array Value} {below : List Frame} {meth : Method} {c : Code} {H : Heap} {locs : List Loc} {cells slots : Nat} {Q : State → Prop}
variable {mc ms : Nat} {free : Addr → Prop} {A0 A1 : Nat → Prop} {H0 : Heap} {a : Array Value} {ls : Array Slot} {st0 rest : List Value}
variable {Qc : Array Value → State → Outcome → State → Prop} {XC : String → State → State → Prop}
theorem z_throwSW {cc : ByteArray} {pc : Nat} (hexec : p.tables.exec = Jvm.exec) (hb : c.code = cc) (hl : l.stackTraces = false) {own cls text : String} {names : List String} {ik is ic mc ms sa : Nat} {A : Nat → Prop}
    (hown : s.vm.findClass own = some m.cls) (hcls : Bundle.fit cls = true) (hnames : ∀ n ∈ names, Bundle.fit n = true)
    (hk : (Cond.classLink own ik cls).before args s = true) (hini : (Cond.initialized cls).before args s = true) (hstr : vk_R own is text sa s) (hat : ∀ w ∈ vx_atS own ic cls names, w.before args s = true)
    (hgood : ∀ w ∈ Cond.classLink own ik cls :: Cond.initialized cls :: vx_atS own ic cls names, vx_ot w = true)
    (hU : vx_Zq Bundle.tN "UNASSIGNED_STACK" Bundle.steD A s s.heap) (hN : vx_Zq Bundle.tN "SUPPRESSED_SENTINEL" Bundle.listD A s s.heap) (hS : va_S A s.heap H locs) (hsize : ls.size = c.maxLocals)
    (d0 : decode cc pc = .ok (.new ik, 3)) (d3 : decode cc (pc + 3) = .ok (.dup, 1)) (d4 : decode cc (pc + 4) = .ok (.ldc_w is, 3)) (d7 : decode cc (pc + 7) = .ok (.invokespecial ic, 3)) (d10 : decode cc (pc + 10) = .ok (.athrow, 1))
    (hout : ∀ x ∈ c.exceptionTable.toList, covers x (pc + 10) = false)
    (hRframes : names.length + 3 < R.frames) (hRlocals : (rest.map fun v => v.category).sum + (13 * (names.length + 1) + 43) ≤ R.locals) (hRcells : cells + 1 ≤ R.cells) (hRslots : slots + 6 ≤ R.slots) (hlocks : meth.locks = false)
    (hx : ∀ t : State, s.vm.Alike t.vm → t.heap.size = H.size + 1 → (∀ q : Nat, q < H.size → t.heap[q]? = H[q]?) → XC cls s t)
    (hf : ∀ z ∈ locs, free z.base) (hc : cells + 1 ≤ mc) (hs : slots + 6 ≤ ms) :
    W p l e R s m args below meth c H locs cells slots (vx_MQ below Qc XC args s mc ms free) (F0 m pc ls rest) := by
  intro T hT X
  have htr : e.platform.stackTraces = false := (show e.platform.stackTraces = l.stackTraces by rw [X.admits.platform]).trans hl
  have Y := vx_rebase X (R' := { frames := R.frames, locals := R.locals, cells := 1, slots := 6 }) (Nat.le_refl _) (Nat.le_refl _) hRcells hRslots
  obtain ⟨s', hA⟩ : ∃ z, z = (T.setVm s.vm).setFrames (.invoking m args :: below) := ⟨_, rfl⟩
  rw [← hA] at Y
  have hvm : s'.vm = s.vm := by rw [hA]; rfl
  have hhp : s'.heap = H := by rw [hA]; exact hT
  have hW0 : s.WarmedH s'.vm := by rw [hvm]; exact State.WarmedH.refl s
  have hat' : ∀ w ∈ vx_atS own ic cls names, w.before args s' = true := fun w hw => vx_ot_at hW0 hvm.symm (hgood w (List.mem_cons_of_mem _ (List.mem_cons_of_mem _ hw))) (hat w hw)
  have hk' : (Cond.classLink own ik cls).before args s' = true := vx_ot_at hW0 hvm.symm (hgood _ List.mem_cons_self) hk
  have hini' : (Cond.initialized cls).before args s' = true := vx_ot_at hW0 hvm.symm (hgood _ (List.mem_cons_of_mem _ List.mem_cons_self)) hini
  have hU' : vx_Zq Bundle.tN "UNASSIGNED_STACK" Bundle.steD A s' s'.heap := by rw [hhp]; exact vx_Zq.moved hW0.alike (hU.kept hS.2.1)
  have hN' : vx_Zq Bundle.tN "SUPPRESSED_SENTINEL" Bundle.listD A s' s'.heap := by rw [hhp]; exact vx_Zq.moved hW0.alike (hN.kept hS.2.1)
  have h : ∀ w ∈ Bundle.ownAtoms own ic cls names, w.before args s' = true := vx_own hat' (vx_isRefq hU'.1) (vx_isRefq hN'.1) hU'.2.word hN'.2.word
  have hown' : s'.vm.findClass own = some m.cls := by rw [hvm]; exact hown
  have hins : (Cond.instantiable cls 6).before args s' = true := h _ (by simp [Bundle.ownAtoms])
  obtain ⟨vm₁, cX, kX, hfX, hkX, -, -, X₁, st1⟩ := Y.newCold hexec (own := own) (C := cls) (index := ik) (n := 6) hown' hk' hins hini'
    (g := F0 m pc ls rest) rfl (by rw [hb]; exact d0) (Nat.le_refl _) (Nat.le_refl _)
  generalize hT1 : (T.setVm vm₁).pushCell { cls := cX, slots := kX.instanceTypes.map defaultValue, vm := .none } = T1 at X₁ st1
  have hcat : (Value.ref T.heap.size).category = 1 := rfl
  have hcellA : T1.heap[T.heap.size]? = some (freshCell cX kX) := by rw [← hT1]; exact State.heap_pushCell_size _ _
  have d3' : decode c.code (pc + 3) = .ok (.dup, 1) := by rw [hb]; exact d3
  have d4' : decode c.code (pc + 4) = .ok (.ldc_w is, 3) := by rw [hb]; exact d4
  have hstr' : vk_R own is text sa s' := vk_R.warm hW0 hstr
  obtain ⟨U, hsteps, hrun, hend, hW, hsame, ce, hce, hO⟩ := X₁.ctorThrowS hexec htr (own := own) (cls := cls) (names := names) (ic := ic) hown' hcls hnames h (fun x hx => nomatch hx) hfX hkX hcellA (by rw [hhp, hT]; exact Nat.le_refl _) (msg := .ref sa) rfl
    (g := { method := m, pc := pc + 7, locals := ls, stack := .ref sa :: .ref T.heap.size :: .ref T.heap.size :: rest, locked := none }) rfl hsize rfl rfl (rest := rest) rfl
    (by rw [hb]; exact d7) (by rw [hb]; exact d10) hout hRframes (by simp only [List.map_cons, List.sum_cons, hcat]; omega) hlocks
  obtain ⟨f1, f2⟩ := vx_frame hsame
  rw [hhp] at f1 f2
  have fz : U.heap.size = H.size + 1 := by
    have q1 : U.heap.size ≤ s'.heap.size + (0 + 1) := hsame.2.2.1
    have q2 : T.heap.size < U.heap.size := (Array.getElem?_eq_some_iff.mp hce).1
    rw [hhp] at q1
    rw [hT] at q2
    omega
  have hWs : s.WarmedH U.vm := State.WarmedH.trans hW0 hW
  have hcl : s.vm.findClass cls = some ce.cls := by
    have h9 := hO.cls
    rw [hvm] at h9
    exact h9
  have hall : s.sameButNew ({ U with vm := s.vm } : State) locs mc ms := by
    subst hA
    obtain ⟨e1, e2⟩ := hsame
    rw [State.setFrames_setFrames] at e1
    have h2 : (T.setVm s.vm).sameButNew ({ U with vm := s.vm } : State) [] (0 + 1) (0 + 6) := ⟨e1, e2⟩
    have h3 := X.same.trans h2
    rw [List.append_nil] at h3
    exact h3.mono hc hs
  refine ⟨U, ?_, .threw T.heap.size, hrun, hend, Or.inr ⟨T.heap.size, rfl, cls, ce, locs, hx U hWs.alike fz (fun q hq => f2 q hq (fun z hz => nomatch hz)), hce, hO.vm, hcl, hWs, hall, hf⟩⟩
  refine st1 _ ?_
  show Steps p.tables e below (T1.setTop { method := m, pc := pc + 3, locals := ls, stack := .ref T.heap.size :: rest, locked := none }) _
  jvm_step X₁.here [X₁.here.top, hexec, d3', Value.category]
  exact X₁.ldcStringW hexec (own := own) (text := text) (index := is) (a := sa) hown' hstr'.1 hstr'.2
    (g := { method := m, pc := pc + 4, locals := ls, stack := .ref T.heap.size :: .ref T.heap.size :: rest, locked := none }) rfl d4' _ hsteps
end ZT
section ZCQ
variable {β : Type} {X : zX} {y : MethodName} {cc : ByteArray} {nL : Nat} {rt : Option FieldType} {fr lo : Nat} {K : String ⊕ β → zM → Prop} {pc : Nat} {lv : List (Nat × Value)} {st : List Value} {g : zP β}
theorem r_throwW (C : z_Ok X y cc nL rt fr lo) {ik is ic i : Nat} {E text : String} (hx : z_KX X K) (d0 : decode cc pc = .ok (.new ik, 3)) (d3 : decode cc (pc + 3) = .ok (.dup, 1)) (d4 : decode cc (pc + 4) = .ok (.ldc_w is, 3)) (d7 : decode cc (pc + 7) = .ok (.invokespecial ic, 3)) (d10 : decode cc (pc + 10) = .ok (.athrow, 1))
    (hE : E ∈ z_exc) (hks : z_ks[i]? = some (y.cls, is, text)) (hlk : Cond.classLink y.cls ik E ∈ XT) (hini : Cond.initialized E ∈ XT) (hTW : z_TW y.cls ic E)
    (hodd : ∀ w ∈ (vx_atS y.cls ic E ["java/lang/RuntimeException", "java/lang/Exception"]).filter (fun w => !goodWord w), w ∈ Cond.castable E E :: z_dcls.map (fun q => Cond.declares (Bundle.initS q)))
    (hot : ∀ w ∈ Cond.classLink y.cls ik E :: Cond.initialized E :: vx_atS y.cls ic E ["java/lang/RuntimeException", "java/lang/Exception"], vx_ot w = true) (hft : Bundle.fit E = true)
    (hfr : 5 < fr) (hlo : (st.map fun v => v.category).sum + 82 ≤ lo) : z_Sim X nL K pc lv st (z_th E) := by
  intro M H locs ls r M1 hI hL h0 hl hp hK hF
  have hp : some ((Sum.inl E : String ⊕ β), z_mk M 99 0 6) = some (r, M1) := hp
  cases hp
  obtain ⟨hM, hv⟩ := hx.1 E _ hK
  obtain ⟨r1, r2, r3, r4⟩ := z_room h0 (z_mk_le (k := 99) (n := 0) (w := 6)) (z_le.rf _) hF
  rw [z_mk_room.1] at r1 r3
  rw [z_mk_room.2] at r2 r4
  have hbsz : (x_b X) ≤ (x_s X).heap.size := by
    have := C.2.2.2.2.2.2.2.2.2.2.2.2.2.2.2.1
    omega
  have h0I : x_Inv X (x_M0 X) (x_s X).heap := C.2.2.2.2.2.2.2.2.2.2.2.2.2.2.2
  have hZ : ∀ a : Nat, a < (x_Z X).size → ¬ x_b X ≤ a → (x_s X).heap[a]? = (x_Z X)[a]? := fun a _ ha => h0I.2.2.1 a (by omega)
  have hS : va_S (fun q => x_b X ≤ q) (x_s X).heap H locs := by
    refine ⟨?_, fun q hq hn => ?_, hL⟩
    · rw [h0I.1, hI.1]
      have := h0.1
      omega
    · rw [hI.2.2.1 q (by omega), h0I.2.2.1 q (by omega)]
  refine z_throwSW (text := text) (sa := (x_D X).2.2.2.1 i) (names := ["java/lang/RuntimeException", "java/lang/Exception"]) (A := fun q => x_b X ≤ q) C.1 C.2.1 C.2.2.2.2.2.2.2.2.2.2.2.2.1 C.own hft (by decide) (C.ws _ hlk) (C.ws _ hini) (C.G.2.2.2.2.1 i _ hks)
    (vx_hat (fun w hw => C.ws _ (hTW w hw)) hodd (vx_c (va_Nw.use rfl (C.G.2.2.2.2.2.2.2.2.1 E hE)) (fun w hw => by
      obtain ⟨q, hq, rfl⟩ := List.mem_map.mp hw
      exact va_Nw.use rfl (C.G.2.2.2.2.2.2.2.2.2.1 q hq)))) hot (C.G.2.1.kept hZ) (C.G.2.2.1.kept hZ) hS (by rw [C.2.2.1]; exact hl.1) d0 d3 d4 d7 d10 (fun x hx9 => (hx.2 x hx9).elim) (by rw [C.2.2.2.2.2.2.2.2.1]; exact hfr) (by rw [C.2.2.2.2.2.2.2.2.2.1]; exact hlo)
    (Nat.le_trans r1 C.2.2.2.2.2.2.2.2.2.2.1) (Nat.le_trans r2 C.2.2.2.2.2.2.2.2.2.2.2.1) C.2.2.2.2.2.1 (fun t _ hz hq => ⟨hv, ?_⟩) hL r1 r2
  rw [← hM]
  refine z_Inv.push hI hz hq ?_
  unfold z_at
  have hk0 : z_kd (z_mk M 99 0 6) (z_nx M) = 99 := if_pos rfl
  rw [hk0, if_neg (by decide), if_neg (by decide)]
  trivial

theorem fs_value : Cond.fieldLink RJ0 9 "java/lang/String" "value" "[B" ∈ XT := XT_t 1741 (by decide +kernel) rfl
theorem fs_coder : Cond.fieldLink RJ0 15 "java/lang/String" "coder" "B" ∈ XT := XT_t 1742 (by decide +kernel) rfl
theorem fs_COMPACT_STRINGS : Cond.fieldLink RJ0 38 "java/lang/String" "COMPACT_STRINGS" "Z" ∈ XT := XT_t 645 (by decide +kernel) rfl
theorem fs_SIOOBE_FORMATTER : Cond.fieldLink RJ0 1053 "jdk/internal/util/Preconditions" "SIOOBE_FORMATTER" "Ljava/util/function/BiFunction;" ∈ XT := XT_t 661 (by decide +kernel) rfl
theorem r_nret {ty : FieldType} (C : z_Ok X y cc nL (some ty) fr lo) {iv : Int32 → Option Value} {v : Int32} (hd : decode cc pc = .ok (.ireturn, 1)) (hn : narrow ty (.int v) = .int v) : z_Sim X nL (z_K0 X z_ivI) pc lv [.int v] (z_pu v) := by
  intro M H locs ls r M1 hI hL h0 hl hp hK hF
  cases hp
  obtain ⟨hM, hv⟩ := hK
  have w := W.zret (Qc := z_Qc (x_D X) (x_b X) (x_Z X) (x_MF X) (x_F X)) (free := fun q => x_b X ≤ q) (cells := z_nx M - z_nx (x_M0 X)) (slots := z_sl M - z_sl (x_M0 X)) (p := x_p X) (l := x_l X) (e := x_e X) (R := x_R X) (m := x_m X) (below := x_below X) (ls := ls) C.1 C.2.1 C.2.2.2.2.2.2.2.2.2.2.2.2.2.2.1 hn (z_qc C hI hM hv) hL hd C.2.2.2.2.2.1
  rw [hM] at w
  unfold z_W
  rw [hM]
  exact vx_ret w
theorem r_i2c (C : z_Ok X y cc nL rt fr lo) {v : Int32} (hd : decode cc pc = .ok (.i2c, 1)) (h : z_Sim X nL K (pc + 1) lv (.int (v.toUInt32 % 65536).toInt32 :: st) g) : z_Sim X nL K pc lv (.int v :: st) g := fun M H locs ls r M1 hI hL h0 hl hp hK hF => lv_i2c C.1 C.2.1 hd rfl (h M H locs ls r M1 hI hL h0 hl hp hK hF)
/-- a call on a String constant -/
theorem r_callVs (C : z_Ok X y cc nL rt fr lo) {y2 : MethodName} {cc2 : ByteArray} {nL2 : Nat} {rt2 : Option FieldType} {fr2 lo2 : Nat} {As2 : zD → Nat → List Value} {prog : zP Int32} {i idx n : Nat} (As rest : List Value) {kk : Int32 → zP β} (hi : i < z_ks.length) (hx : z_KX X K) (hS : z_Sound y2 cc2 nL2 rt2 fr2 lo2 As2 z_ivI prog) (hm : z_Mt y2 cc2 nL2 rt2 n) (hd : decode cc pc = .ok (.invokevirtual idx, 3)) (hlk : Cond.methodLink y.cls idx y2 ∈ XT) (hin : Cond.instanceMethod y2 ∈ XT) (hse : Cond.selects "java/lang/String" y2 y2 ∈ XT)
    (hAs : As2 (x_D X) (x_b X) = .ref ((x_D X).2.2.2.1 i) :: As) (hn : As.length = n) (hst : st = As.reverse ++ .ref ((x_D X).2.2.2.1 i) :: rest) (hW : (rest.map fun v => v.category).sum ≤ 8) (hroom : fr2 + 1 ≤ fr ∧ 8 + (nL2 + 11) + lo2 ≤ lo)
    (h : ∀ r, z_Sim X nL K (pc + 3) lv (.int r :: rest) (kk r)) : z_Sim X nL K pc lv st (z_bd prog kk) := by
  intro M H locs ls r M1 hI hL h0 hl hp hK hF
  obtain ⟨r2, M2, p1, l1, l2, k1, k2⟩ := z_bd_run hp
  have hMet := hS (x_l X) (x_D X) (x_b X) (x_Z X) M M2 r2 C.2.2.2.2.2.2.2.2.2.2.2.2.1 p1
  rw [hAs] at hMet
  obtain ⟨q1, q2, -, -⟩ := z_room h0 l1 (z_le.rf _) (l2.tr hF)
  subst hst
  refine z_afterRun (rest := rest) (ar := (Value.ref ((x_D X).2.2.2.1 i) :: As).toArray) (r2 := r2) (iv2 := z_ivI) C hL h0 l1 (l2.tr hF) (vx_runV (Ts := XT) (C := "java/lang/String") (own := y.cls) ⟨C.1, C.2.1, C.2.2.1, C.own, C.ws⟩ hMet ⟨z_cb C hm hlk hroom, C.ws _ hin, C.ws _ hse⟩ ⟨z_blind, vk_recv (z_str C) hi (z_hS C hI h0 hL), z_pre C hI⟩ rfl hn hl.1 rfl (by show 2 * 0 + _ ≤ 8; omega) hd ⟨Nat.le_trans q1 C.2.2.2.2.2.2.2.2.2.2.1, Nat.le_trans q2 C.2.2.2.2.2.2.2.2.2.2.2.1⟩) ?_ ?_
  · intro a2 e H' locs' hI' hL'
    exact h a2 M2 H' locs' ls r M1 hI' hL' (h0.tr l1) hl (k1 a2 e) hK hF
  · intro E e
    obtain ⟨e1, e2⟩ := k2 E e
    subst e1
    rw [e2]
    exact ⟨hx.1 E M1 hK, hx.2⟩
end ZCQ
section ZSX
variable {β : Type} {X : zX} {y : MethodName} {cc : ByteArray} {nL : Nat} {rt : Option FieldType} {fr lo : Nat} {K : String ⊕ β → zM → Prop} {pc : Nat} {lv : List (Nat × Value)} {st : List Value} {g : zP β}
theorem r_sioobe2 (C : z_Ok X y cc nL rt fr lo) {idx : Nat} (hd : decode cc pc = .ok (.getstatic idx, 3)) (hlk : Cond.fieldLink y.cls idx "jdk/internal/util/Preconditions" "SIOOBE_FORMATTER" "Ljava/util/function/BiFunction;" ∈ XT) (h : ∀ v : Value, (v = .null ∨ ∃ t, v = .ref t) → z_Sim X nL K (pc + 3) lv (v :: st) g) : z_Sim X nL K pc lv st g := fun M H locs ls r M1 hI hL h0 hl hp hK hF => by
  rcases C.G.2.2.2.2.2.2.2.2.2.2.2.2.kept (z_hZ C) with h1 | ⟨t, h1⟩
  · exact va_gets C.1 C.2.1 h1 (z_hS C hI h0 hL) C.own (C.ws _ hlk) (fun _ q => q) hd (h _ (Or.inl rfl) M H locs ls r M1 hI hL h0 hl hp hK hF)
  · exact va_gets C.1 C.2.1 h1 (z_hS C hI h0 hL) C.own (C.ws _ hlk) (fun _ q => q) hd (h _ (Or.inr ⟨t, rfl⟩) M H locs ls r M1 hI hL h0 hl hp hK hF)
/-- a static call of a known answer -/
theorem r_cSW (C : z_Ok X y cc nL rt fr lo) {y2 : MethodName} {cc2 : ByteArray} {nL2 : Nat} {rt2 : Option FieldType} {fr2 lo2 : Nat} {As2 : zD → Nat → List Value} {idx n : Nat} {v : Int32} {P : Int32 → Prop} (As rest : List Value) {kk : Int32 → zP β} (hx : z_KX X K) (hS : z_Sound y2 cc2 nL2 rt2 fr2 lo2 As2 z_ivI (z_pu v)) (hm : z_Mt y2 cc2 nL2 rt2 n) (hd : decode cc pc = .ok (.invokestatic idx, 3)) (hlk : Cond.methodLink y.cls idx y2 ∈ XT) (hsta : Cond.static y2 ∈ XT)
    (hAs : As2 (x_D X) (x_b X) = As) (hn : As.length = n) (hst : st = As.reverse ++ rest) (hW : (rest.map fun v => v.category).sum ≤ 8) (hroom : fr2 + 1 ≤ fr ∧ 8 + (nL2 + 11) + lo2 ≤ lo) (hP : P v)
    (h : ∀ r, P r → z_Sim X nL K (pc + 3) lv (.int r :: rest) (kk r)) : z_Sim X nL K pc lv st (z_bd (z_pu v) kk) := by
  have e : z_bd (z_pu v) kk = z_bd (z_pu v) (fun r => if r = v then kk v else z_fl) := by
    show kk v = if v = v then kk v else z_fl
    rw [if_pos rfl]
  rw [e]
  refine r_cSI C As rest hx hS hm hd hlk hsta hAs hn hst hW hroom (fun r => r_ite (fun hr => ?_) (fun _ => r_fl))
  rw [hr]
  exact h v hP
end ZSX
theorem s_coder {i : Nat} (hi : i < z_ks.length) : z_Sound yJ0_coder_7d493 cJ0_coder_7d493 1 (some .byte) 1 20 (fun D b => [.ref (D.2.2.2.1 i)]) z_ivI (z_pu 0) := by
  refine z_ofSim rfl (by intro D b; exact Nat.le_of_ble_eq_true rfl) (fun X C hT => ?_)
  refine r_sub [(0, .ref ((x_D X).2.2.2.1 i))] rfl ?_
  refine r_compact (pc := 0) C dJ0_coder_7d493_0 fs_COMPACT_STRINGS ?_
  have e : (z_pu 0 : zP Int32) = if (1 : Int32) = 0 then z_fl else z_pu 0 := by rw [if_neg (by decide)]
  rw [e]
  refine r_if_eq (pc := 3) C (tgt := 13) dJ0_coder_7d493_3 rfl (fun _ => r_fl) (fun _ => ?_)
  refine r_aload_n (pc := 6) C dJ0_coder_7d493_6 rfl rfl ?_
  refine r_scod (pc := 7) C hi dJ0_coder_7d493_7 fs_coder ?_
  refine r_goto (pc := 10) C (tgt := 14) dJ0_coder_7d493_10 rfl ?_
  exact r_nret (iv := z_ivI) (pc := 14) C dJ0_coder_7d493_14 rfl
theorem s_isLatin1 {i : Nat} (hi : i < z_ks.length) : z_Sound yJ0_isLatin1_aae02 cJ0_isLatin1_aae02 1 (some .boolean) 1 20 (fun D b => [.ref (D.2.2.2.1 i)]) z_ivI (z_pu 1) := by
  refine z_ofSim rfl (by intro D b; exact Nat.le_of_ble_eq_true rfl) (fun X C hT => ?_)
  refine r_sub [(0, .ref ((x_D X).2.2.2.1 i))] rfl ?_
  refine r_compact (pc := 0) C dJ0_isLatin1_aae02_0 fs_COMPACT_STRINGS ?_
  have e : (z_pu 1 : zP Int32) = if (1 : Int32) = 0 then z_fl else (if (0 : Int32) = 0 then z_pu 1 else z_fl) := by rw [if_neg (by decide), if_pos rfl]
  rw [e]
  refine r_if_eq (pc := 3) C (tgt := 17) dJ0_isLatin1_aae02_3 rfl (fun _ => r_fl) (fun _ => ?_)
  refine r_aload_n (pc := 6) C dJ0_isLatin1_aae02_6 rfl rfl ?_
  refine r_scod (pc := 7) C hi dJ0_isLatin1_aae02_7 fs_coder ?_
  refine r_if_ne (pc := 10) C (tgt := 17) dJ0_isLatin1_aae02_10 rfl (fun _ => ?_) (fun _ => r_fl)
  refine r_iconst (pc := 13) C dJ0_isLatin1_aae02_13 (v := 1) (by decide) ?_
  refine r_goto (pc := 14) C (tgt := 18) dJ0_isLatin1_aae02_14 rfl ?_
  exact r_zret1 (pc := 18) C dJ0_isLatin1_aae02_18 (by decide)
def z_strlen (i : Nat) : zP Int32 := if i < z_ks.length then z_pu (nI (z_slen.getD i 0)) else z_fl
def z_charAt (i : Nat) (k : Int32) : zP Int32 := if i < z_ks.length ∧ ¬ k < 0 ∧ k < nI (z_slen.getD i 0) then z_pu ((((z_sbyt.getD i []).getD k.toNatClampNeg 0 &&& 255).toUInt32 % 65536).toInt32) else z_fl
theorem z_sound_fl {α : Type} {y : MethodName} {cc : ByteArray} {nL : Nat} {rt : Option FieldType} {fr lo : Nat} {As : zD → Nat → List Value} {iv : α → Option Value} : z_Sound y cc nL rt fr lo As iv (z_fl : zP α) := fun l D b Z M M' r _ h => by cases h
theorem z_slen_lt (i : Nat) : z_slen.getD i 0 < 1000 := by
  have h : ∀ k, k < 25 → z_slen.getD k 0 < 1000 := by decide +kernel
  by_cases hi : i < 25
  · exact h i hi
  · rw [List.getD_eq_getElem?_getD, List.getElem?_eq_none (by show 25 ≤ i; omega)]
    decide
theorem s_strlen (i : Nat) : z_Sound yJ0_length_8abf5 cJ0_length_8abf5 1 (some .int) 2 60 (fun D b => [.ref (D.2.2.2.1 i)]) z_ivI (z_strlen i) := by
  unfold z_strlen
  by_cases hi : i < z_ks.length
  · rw [if_pos hi]
    refine z_ofSim rfl (by intro D b; exact Nat.le_of_ble_eq_true rfl) (fun X C hT => ?_)
    refine r_sub [(0, .ref ((x_D X).2.2.2.1 i))] rfl ?_
    refine r_aload_n (pc := 0) C dJ0_length_8abf5_0 rfl rfl ?_
    refine r_sval (pc := 1) C hi dJ0_length_8abf5_1 fs_value ?_
    refine r_slen (pc := 4) C hi dJ0_length_8abf5_4 ?_
    refine r_aload_n (pc := 5) C dJ0_length_8abf5_5 rfl rfl ?_
    have e : (z_pu (nI (z_slen.getD i 0)) : zP Int32) = z_bd (z_pu 0) (fun r => z_pu (nI (z_slen.getD i 0) >>> (r &&& 31))) := by
      have e2 : nI (z_slen.getD i 0) >>> ((0 : Int32) &&& 31) = nI (z_slen.getD i 0) := by
        have h3 := pk_shrN (n := z_slen.getD i 0) (by have := z_slen_lt i; omega) ((0 : Int32) &&& 31) 0 (by decide)
        rw [h3]
        simp
      show _ = z_pu (nI (z_slen.getD i 0) >>> ((0 : Int32) &&& 31))
      rw [e2]
    rw [e]
    refine r_callVs (pc := 6) C [] [.int (nI (z_slen.getD i 0))] hi (z_KX.zero hT) (s_coder hi) mt_J0_coder_7d493 dJ0_length_8abf5_6 ml_J0_335 im_J0_coder_7d493 se_J0_coder_7d493 rfl rfl rfl (Nat.le_of_ble_eq_true rfl) ⟨Nat.le_of_ble_eq_true rfl, Nat.le_of_ble_eq_true rfl⟩ (fun r => ?_)
    refine r_ishr (pc := 9) C dJ0_length_8abf5_9 ?_
    exact r_iret (pc := 10) C dJ0_length_8abf5_10
  · rw [if_neg hi]
    exact z_sound_fl
theorem s_pcheck (i n : Int32) (v : Value) (hv : v = .null ∨ ∃ t, v = .ref t) (h1 : ¬ i < 0) (h2 : i < n) : z_Sound yJ3_checkIndex_8e157 cJ3_checkIndex_8e157 3 (some .int) 1 20 (fun D b => [.int i, .int n, v]) z_ivI (z_pu i) := by
  have hp : ∀ D : zD, ∀ b : Nat, (lg_sl ([.int i, .int n, v] : List Value)).length ≤ 3 := by
    intro D b
    rcases hv with rfl | ⟨t, rfl⟩ <;> exact Nat.le_of_ble_eq_true rfl
  refine z_ofSim rfl hp (fun X C hT => ?_)
  refine r_sub [(0, .int i), (1, .int n)] (by rcases hv with rfl | ⟨t, rfl⟩ <;> rfl) ?_
  have e : (z_pu i : zP Int32) = if i < 0 then z_fl else (if i < n then z_pu i else z_fl) := by rw [if_neg h1, if_pos h2]
  rw [e]
  refine r_iload_n (pc := 0) C dJ3_checkIndex_8e157_0 rfl rfl ?_
  refine r_if_lt (pc := 1) C (tgt := 9) dJ3_checkIndex_8e157_1 rfl (fun _ => r_fl) (fun _ => ?_)
  refine r_iload_n (pc := 4) C dJ3_checkIndex_8e157_4 rfl rfl ?_
  refine r_iload_n (pc := 5) C dJ3_checkIndex_8e157_5 rfl rfl ?_
  refine r_icmp_lt (pc := 6) C (tgt := 16) dJ3_checkIndex_8e157_6 rfl (fun _ => ?_) (fun _ => r_fl)
  refine r_iload_n (pc := 16) C dJ3_checkIndex_8e157_16 rfl rfl ?_
  exact r_iret (pc := 17) C dJ3_checkIndex_8e157_17
theorem s_check (i n : Int32) (h1 : ¬ i < 0) (h2 : i < n) : z_Sound yJ0_checkIndex_df160 cJ0_checkIndex_df160 2 none 2 60 (fun D b => [.int i, .int n]) z_ivV (z_pu ()) := by
  refine z_ofSim rfl (by intro D b; exact Nat.le_of_ble_eq_true rfl) (fun X C hT => ?_)
  refine r_sub [(0, .int i), (1, .int n)] rfl ?_
  refine r_iload_n (pc := 0) C dJ0_checkIndex_df160_0 rfl rfl ?_
  refine r_iload_n (pc := 1) C dJ0_checkIndex_df160_1 rfl rfl ?_
  refine r_sioobe2 (pc := 2) C dJ0_checkIndex_df160_2 fs_SIOOBE_FORMATTER (fun v hv => ?_)
  have e : (z_pu () : zP Unit) = z_bd (z_pu i) (fun _ => z_pu ()) := rfl
  rw [e]
  refine r_cSI (pc := 5) C [.int i, .int n, v] [] (z_KX.zero hT) (s_pcheck i n v hv h1 h2) mt_J3_checkIndex_8e157 dJ0_checkIndex_df160_5 ml_J0_1059 sm_J3_checkIndex_8e157 rfl rfl rfl (Nat.le_of_ble_eq_true rfl) ⟨Nat.le_of_ble_eq_true rfl, Nat.le_of_ble_eq_true rfl⟩ (fun r => ?_)
  refine r_pop (pc := 8) C dJ0_checkIndex_df160_8 rfl ?_
  exact r_vret (pc := 9) C dJ0_checkIndex_df160_9
theorem z_vpin {i : Nat} {k : Int32} (h1 : ¬ k < 0) (h2 : k < nI (z_slen.getD i 0)) : vp_in k (z_slen.getD i 0) := by
  rw [vp_in_iff]
  have := z_slen_lt i
  have h3 := Int32.lt_iff_toInt_lt.mp h2
  rw [nI_toInt (by omega)] at h3
  have h4 := Int32.le_iff_toInt_le.mp (Int32.not_lt.mp h1)
  exact ⟨by simpa using h4, h3⟩
theorem s_l1 {i : Nat} {k : Int32} (hi : i < z_ks.length) (h1 : ¬ k < 0) (h2 : k < nI (z_slen.getD i 0)) : z_Sound yJ1_charAt_3b067 cJ1_charAt_3b067 2 (some .char) 3 100 (fun D b => [.ref (D.2.2.2.2 i), .int k]) z_ivI (z_pu ((((z_sbyt.getD i []).getD k.toNatClampNeg 0 &&& 255).toUInt32 % 65536).toInt32)) := by
  refine z_ofSim rfl (by intro D b; exact Nat.le_of_ble_eq_true rfl) (fun X C hT => ?_)
  refine r_sub [(0, .ref ((x_D X).2.2.2.2 i)), (1, .int k)] rfl ?_
  refine r_iload_n (pc := 0) C dJ1_charAt_3b067_0 rfl rfl ?_
  refine r_aload_n (pc := 1) C dJ1_charAt_3b067_1 rfl rfl ?_
  refine r_slen (pc := 2) C hi dJ1_charAt_3b067_2 ?_
  have e : (z_pu ((((z_sbyt.getD i []).getD k.toNatClampNeg 0 &&& 255).toUInt32 % 65536).toInt32) : zP Int32) = z_bd (z_pu ()) (fun _ => z_pu ((((z_sbyt.getD i []).getD k.toNatClampNeg 0 &&& 255).toUInt32 % 65536).toInt32)) := rfl
  rw [e]
  refine r_cSV (pc := 3) C [.int k, .int (nI (z_slen.getD i 0))] [] (z_KX.zero hT) (s_check k (nI (z_slen.getD i 0)) h1 h2) mt_J0_checkIndex_df160 dJ1_charAt_3b067_3 ml_J1_9 sm_J0_checkIndex_df160 rfl rfl rfl (Nat.le_of_ble_eq_true rfl) ⟨Nat.le_of_ble_eq_true rfl, Nat.le_of_ble_eq_true rfl⟩ ?_
  refine r_aload_n (pc := 6) C dJ1_charAt_3b067_6 rfl rfl ?_
  refine r_iload_n (pc := 7) C dJ1_charAt_3b067_7 rfl rfl ?_
  refine r_sbyt (pc := 8) C hi (z_vpin h1 h2) dJ1_charAt_3b067_8 ?_
  refine r_sipush (pc := 9) C dJ1_charAt_3b067_9 (v := 255) (by decide) ?_
  refine r_iand (pc := 12) C dJ1_charAt_3b067_12 ?_
  refine r_i2c (pc := 13) C dJ1_charAt_3b067_13 ?_
  exact r_nret (iv := z_ivI) (pc := 14) C dJ1_charAt_3b067_14 (pk_nc _)
theorem s_charAt (i : Nat) (k : Int32) : z_Sound yJ0_charAt_5068e cJ0_charAt_5068e 2 (some .char) 4 140 (fun D b => [.ref (D.2.2.2.1 i), .int k]) z_ivI (z_charAt i k) := by
  unfold z_charAt
  by_cases h : i < z_ks.length ∧ ¬ k < 0 ∧ k < nI (z_slen.getD i 0)
  · obtain ⟨hi, h1, h2⟩ := h
    rw [if_pos ⟨hi, h1, h2⟩]
    refine z_ofSim rfl (by intro D b; exact Nat.le_of_ble_eq_true rfl) (fun X C hT => ?_)
    refine r_sub [(0, .ref ((x_D X).2.2.2.1 i)), (1, .int k)] rfl ?_
    refine r_aload_n (pc := 0) C dJ0_charAt_5068e_0 rfl rfl ?_
    have e : (z_pu ((((z_sbyt.getD i []).getD k.toNatClampNeg 0 &&& 255).toUInt32 % 65536).toInt32) : zP Int32) = z_bd (z_pu (1 : Int32)) (fun r => if r = 0 then z_fl else z_bd (z_pu ((((z_sbyt.getD i []).getD k.toNatClampNeg 0 &&& 255).toUInt32 % 65536).toInt32)) (fun r => z_pu r)) := rfl
    rw [e]
    refine r_callVs (pc := 1) C [] [] hi (z_KX.zero hT) (s_isLatin1 hi) mt_J0_isLatin1_aae02 dJ0_charAt_5068e_1 ml_J0_492 im_J0_isLatin1_aae02 se_J0_isLatin1_aae02 rfl rfl rfl (Nat.le_of_ble_eq_true rfl) ⟨Nat.le_of_ble_eq_true rfl, Nat.le_of_ble_eq_true rfl⟩ (fun r => ?_)
    refine r_if_eq (pc := 4) C (tgt := 16) dJ0_charAt_5068e_4 rfl (fun _ => r_fl) (fun _ => ?_)
    refine r_aload_n (pc := 7) C dJ0_charAt_5068e_7 rfl rfl ?_
    refine r_sval (pc := 8) C hi dJ0_charAt_5068e_8 fs_value ?_
    refine r_iload_n (pc := 11) C dJ0_charAt_5068e_11 rfl rfl ?_
    refine r_cSW (P := fun q => narrow .char (.int q) = .int q) (pc := 12) C [.ref ((x_D X).2.2.2.2 i), .int k] [] (z_KX.zero hT) (s_l1 hi h1 h2) mt_J1_charAt_3b067 dJ0_charAt_5068e_12 ml_J0_495 sm_J1_charAt_3b067 rfl rfl rfl (Nat.le_of_ble_eq_true rfl) ⟨Nat.le_of_ble_eq_true rfl, Nat.le_of_ble_eq_true rfl⟩ (pk_nc _) (fun r hr => ?_)
    exact r_nret (iv := z_ivI) (pc := 15) C dJ0_charAt_5068e_15 hr
  · rw [if_neg h]
    exact z_sound_fl
section ZST
variable {β : Type} {X : zX} {y : MethodName} {cc : ByteArray} {nL : Nat} {rt : Option FieldType} {fr lo : Nat} {K : String ⊕ β → zM → Prop} {pc : Nat} {lv : List (Nat × Value)} {st : List Value} {g : zP β}
theorem r_strlen (C : z_Ok X y cc nL rt fr lo) {i idx : Nat} (rest : List Value) {kk : Int32 → zP β} (hx : z_KX X K) (hd : decode cc pc = .ok (.invokevirtual idx, 3)) (hlk : Cond.methodLink y.cls idx yJ0_length_8abf5 ∈ XT) (hW : (rest.map fun v => v.category).sum ≤ 8) (hf : 3 ≤ fr) (hlo : 8 + (1 + 11) + 60 ≤ lo) (h : ∀ r, z_Sim X nL K (pc + 3) lv (.int r :: rest) (kk r)) : z_Sim X nL K pc lv (.ref ((x_D X).2.2.2.1 i) :: rest) (z_bd (z_strlen i) kk) := by
  by_cases hi : i < z_ks.length
  · exact r_callVs C [] rest hi hx (s_strlen i) mt_J0_length_8abf5 hd hlk im_J0_length_8abf5 se_J0_length_8abf5 rfl rfl rfl hW ⟨hf, hlo⟩ h
  · have e : z_bd (z_strlen i) kk = z_fl := by unfold z_strlen; rw [if_neg hi]; rfl
    rw [e]; exact r_fl
theorem r_charAt (C : z_Ok X y cc nL rt fr lo) {i idx : Nat} {k : Int32} (rest : List Value) {kk : Int32 → zP β} (hx : z_KX X K) (hd : decode cc pc = .ok (.invokevirtual idx, 3)) (hlk : Cond.methodLink y.cls idx yJ0_charAt_5068e ∈ XT) (hW : (rest.map fun v => v.category).sum ≤ 8) (hf : 5 ≤ fr) (hlo : 8 + (2 + 11) + 140 ≤ lo) (h : ∀ r, z_Sim X nL K (pc + 3) lv (.int r :: rest) (kk r)) : z_Sim X nL K pc lv (.int k :: .ref ((x_D X).2.2.2.1 i) :: rest) (z_bd (z_charAt i k) kk) := by
  by_cases hi : i < z_ks.length
  · exact r_callVs C [.int k] rest hi hx (s_charAt i k) mt_J0_charAt_5068e hd hlk im_J0_charAt_5068e se_J0_charAt_5068e rfl rfl rfl hW ⟨hf, hlo⟩ h
  · have e : z_bd (z_charAt i k) kk = z_fl := by unfold z_charAt; rw [if_neg (fun q => hi q.1)]; rfl
    rw [e]; exact r_fl
end ZST
