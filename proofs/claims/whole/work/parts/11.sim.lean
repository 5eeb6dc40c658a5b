/-! ===== the machine beside the pure one ===== -/
/-- the tables' words that hold in every warmed state -/
def XT : List Cond := lw_tbl.filter goodWord
theorem XT_good : ∀ w ∈ XT, (w.onTables && w.keeps) = true ∨ ∃ ty, w = .arrayClass ty := fun w h => good_of_word (List.mem_filter.mp h).2
theorem XT_of {w : Cond} (h : w ∈ lw_tbl) (g : goodWord w = true) : w ∈ XT := List.mem_filter.mpr ⟨h, g⟩
theorem XT_t {w : Cond} (n : Nat) (h : tables_1[n]? = some w) (g : goodWord w = true) : w ∈ XT := XT_of (List.mem_append_right _ (List.mem_of_getElem? h)) g
theorem XT_s {w : Cond} (n : Nat) (h : (k2_sels lw_privs)[n]? = some w) (g : goodWord w = true) : w ∈ XT := XT_of (List.mem_append_left _ (List.mem_of_getElem? h)) g
theorem XT_all {cd cd' : Cond} (h : cd' ∈ XT) : GoodIn (cd :: XT) (cd' :: XT) := fun w hw => (List.mem_cons.mp hw).elim (fun e => by rw [e]; exact ⟨List.mem_cons_of_mem _ h, XT_good _ h⟩) (fun h => ⟨List.mem_cons_of_mem _ h, XT_good _ h⟩)
/-- the type of a class's field -/
def z_ft (c k : Nat) : FieldType := match c with
  | 0 => tyX0 k
  | 1 => tyX1 k
  | 2 => tyX2 k
  | 3 => tyX3 k
  | 4 => tyX4 k
  | 5 => tyX5 k
  | 6 => tyX6 k
  | 7 => tyX7 k
  | 8 => tyX8 k
  | _ => tyX9 k
def z_isr (t : FieldType) : Bool := match t with
  | .object _ => true
  | .array _ => true
  | _ => false
def z_N (c : Nat) : Nat := ((vwCl[c]?).map (fun r => r.2.2)).getD 0
/-- the type of what an array of a kind holds -/
def z_ty (c : Nat) : FieldType := match c with
  | 10 => .byte
  | 11 => .int
  | 12 => .boolean
  | 13 => .object RX5
  | 14 => .object RX7
  | _ => .long
/-- classes, slots, array classes, addresses of the String constants and of their bytes -/
abbrev zD : Type := (Nat → ClassId) × (Nat → Nat → Nat) × (Nat → ClassId) × (Nat → Nat) × (Nat → Nat)
abbrev z_rv (b : Nat) (r : Option Nat) : Value := match r with
  | none => .null
  | some a => .ref (b + a)
def z_fv (b : Nat) (M : zM) (c a k : Nat) : Value := if z_isr (z_ft c k) then z_rv b (z_r M a k) else .int (z_i M a k)
def z_ev (b : Nat) (M : zM) (c a j : Nat) : Value := if c = 13 ∨ c = 14 then z_rv b (z_r M a j) else if c = 15 then .long (z_j M a j) else .int (z_i M a j)
def z_at (D : zD) (b : Nat) (M : zM) (a : Nat) (H : Heap) : Prop :=
  if z_kd M a < 10 then t_OB (b + a) (D.1 (z_kd M a)) (z_N (z_kd M a)) (D.2.1 (z_kd M a)) H (fun j => z_fv b M (z_kd M a) a j)
  else if z_kd M a < 16 then H[b + a]? = some (arrV (D.2.2.1 (z_kd M a)) (z_ln M a) (fun j => z_ev b M (z_kd M a) a j)) else True
def z_Inv (D : zD) (b : Nat) (Z : Heap) (M : zM) (H : Heap) : Prop := H.size = b + z_nx M ∧ Z.size = b ∧ (∀ q, q < b → H[q]? = Z[q]?) ∧ ∀ a, a < z_nx M → z_at D b M a H
theorem z_at.kept {D : zD} {b a : Nat} {M M' : zM} {H H' : Heap} (h : z_at D b M a H) (hH : H'[b + a]? = H[b + a]?) (hk : z_kd M' a = z_kd M a) (hl : z_ln M' a = z_ln M a) (hi : z_i M' a = z_i M a) (hr : z_r M' a = z_r M a) (hj : z_j M' a = z_j M a) : z_at D b M' a H' := by
  unfold z_at at h ⊢
  rw [hk]
  split at h
  · rename_i h10
    rw [if_pos h10]
    refine (h.kept hH).to (fun k _ => ?_)
    unfold z_fv
    rw [hi, hr]
  · rename_i h10
    rw [if_neg h10]
    split at h
    · rename_i h16
      rw [if_pos h16, hH, h, hl]
      congr 2
      funext j
      unfold z_ev
      rw [hi, hr, hj]
    · rename_i h16
      rw [if_neg h16]
      trivial
/-- one cell written -/
theorem z_Inv.set {D : zD} {b a : Nat} {Z : Heap} {M M' : zM} {H H' : Heap} (h : z_Inv D b Z M H) (hn : z_nx M' = z_nx M) (hz : H'.size = H.size) (ho : ∀ q, q ≠ b + a → H'[q]? = H[q]?)
    (hk : z_kd M' = z_kd M) (hl : z_ln M' = z_ln M) (hi : ∀ x, x ≠ a → z_i M' x = z_i M x) (hr : ∀ x, x ≠ a → z_r M' x = z_r M x) (hj : ∀ x, x ≠ a → z_j M' x = z_j M x) (hat : z_at D b M' a H') : z_Inv D b Z M' H' := by
  obtain ⟨h1, h2, h3, h4⟩ := h
  refine ⟨by rw [hz, hn]; exact h1, h2, fun q hq => by rw [ho q (by omega)]; exact h3 q hq, fun x hx => ?_⟩
  by_cases hxa : x = a
  · subst hxa; exact hat
  · exact (h4 x (by rw [← hn]; exact hx)).kept (ho _ (by omega)) (by rw [hk]) (by rw [hl]) (hi x hxa) (hr x hxa) (hj x hxa)
/-- one cell made -/
theorem z_Inv.push {D : zD} {b k n w : Nat} {Z : Heap} {M : zM} {H H' : Heap} (h : z_Inv D b Z M H) (hz : H'.size = H.size + 1) (ho : ∀ q, q < H.size → H'[q]? = H[q]?) (hat : z_at D b (z_mk M k n w) (z_nx M) H') : z_Inv D b Z (z_mk M k n w) H' := by
  obtain ⟨h1, h2, h3, h4⟩ := h
  refine ⟨by rw [hz, h1]; exact rfl, h2, fun q hq => by rw [ho q (by omega)]; exact h3 q hq, fun x hx => ?_⟩
  by_cases hxa : x = z_nx M
  · subst hxa; exact hat
  · have hx' : x < z_nx M := by
      have : x < z_nx M + 1 := hx
      omega
    refine (h4 x hx').kept (ho _ (by omega)) ?_ ?_ ?_ ?_ ?_ <;> exact if_neg hxa
/-- the array classes that the worlds know -/
abbrev z_tys (D : zD) : List (ClassId × FieldType) := [(D.2.2.1 10, .byte), (D.2.2.1 11, .int), (D.2.2.1 12, .boolean), (D.2.2.1 13, .object RX5), (D.2.2.1 14, .object RX7), (D.2.2.1 15, .long)]
abbrev z_DD (D : zD) : va_G := (D.1, D.2.1)
/-- the String constants: class, entry, text -/
def z_ks : List (String × Nat × String) := [("BikeShare", 74, "length is out of range"), ("BikeShare$CityReader", 70, "station"), ("BikeShare$CityReader", 79, "truck"), ("BikeShare$CityReader", 84, "trip"), ("BikeShare$CityReader", 89, "pace"), ("BikeShare$CityReader", 94, "balance"), ("BikeShare$CityReader", 99, "bonus"), ("BikeShare$CityReader", 104, "fare"), ("BikeShare$CityReader", 197, "minutes"), ("BikeShare$CityReader", 199, "bikes"), ("BikeShare$CityReader", 201, "docks"), ("BikeShare$CityReader", 203, "hour"), ("BikeShare", 98, "what is out of range"), ("BikeShare", 273, "no such station"), ("BikeShare", 149, "no such rider"), ("BikeShare", 275, "no such truck"), ("BikeShare", 277, "the truck drives"), ("BikeShare", 279, "an argument is out of range"), ("BikeShare", 235, "the time would exceed its limit"), ("BikeShare", 245, "no bike there"), ("BikeShare", 251, "the queue is full"), ("BikeShare", 260, "no free dock"), ("BikeShare", 262, "no broken dock"), ("BikeShare", 264, "too few free docks"), ("BikeShare", 266, "too few bikes")]
def z_slen : List Nat := z_ks.map (fun q => q.2.2.length)
def z_sbyt : List (List Int32) := z_ks.map (fun q => q.2.2.toList.map (fun ch => nI ch.toNat))
/-- private constructors of nest mates: own, entry, method, host -/
def z_nest : List (String × Nat × MethodName) := [("BikeShare", 15, yX1_init), ("BikeShare", 22, yX3_init), ("BikeShare", 29, yX6_init), ("BikeShare$City", 41, yX2_init), ("BikeShare$State", 32, yX4_init), ("BikeShare$State", 37, yX7_init)]
def z_dcls : List String := ["java/lang/RuntimeException", "java/lang/Exception", "java/lang/Throwable"]
def z_exc : List String := ["java/lang/IllegalArgumentException", "java/lang/IndexOutOfBoundsException", "java/lang/IllegalStateException"]
/-- what else holds throughout: arrays of objects, nest mates, the exceptions' classes, statics of String's -/
def z_G2 (b : Nat) (Z : Heap) (U : State) : Prop :=
  va_AO RX5 U ∧ va_AO RX7 U ∧ (∀ q ∈ z_nest, va_Nw (.methodLinkNest q.1 q.2.1 q.2.2 "BikeShare") U) ∧ (∀ E ∈ z_exc, va_Nw (.castable E E) U) ∧ (∀ E ∈ z_dcls, va_Nw (.declares (Bundle.initS E)) U) ∧ (∀ E ∈ z_exc, ∀ E' ∈ z_exc, E ≠ E' → va_Nc E E' U) ∧
  va_Z "java/lang/String" "COMPACT_STRINGS" "Z" (.int 1) (fun q => b ≤ q) U Z ∧ va_Zq "jdk/internal/util/Preconditions" "SIOOBE_FORMATTER" "Ljava/util/function/BiFunction;" (fun q => b ≤ q) U Z
theorem z_G2.warm {b : Nat} {Z : Heap} {s U : State} (hW : s.WarmedH U.vm) (h : z_G2 b Z s) : z_G2 b Z U :=
  ⟨va_AO.moved hW.alike h.1, va_AO.moved hW.alike h.2.1, fun q hq => va_Nw.warmM hW (h.2.2.1 q hq), fun E hE => va_Nw.warmC hW (h.2.2.2.1 E hE), fun E hE => va_Nw.warmD hW (h.2.2.2.2.1 E hE), fun E hE E' hE' hne => va_Nc.moved hW.alike (h.2.2.2.2.2.1 E hE E' hE' hne), va_Z.moved hW.alike h.2.2.2.2.2.2.1, va_Zq.moved hW.alike h.2.2.2.2.2.2.2⟩
def z_G (D : zD) (b : Nat) (Z : Heap) (U : State) : Prop :=
  va_K (z_DD D) vwCl (z_tys D) U ∧ vx_Zq Bundle.tN "UNASSIGNED_STACK" Bundle.steD (fun q => b ≤ q) U Z ∧ vx_Zq Bundle.tN "SUPPRESSED_SENTINEL" Bundle.listD (fun q => b ≤ q) U Z ∧
  vk_S z_ks.length z_slen z_sbyt D.2.2.2.1 D.2.2.2.2 (fun q => b ≤ q) U Z ∧ (∀ i q, z_ks[i]? = some q → vk_R q.1 q.2.1 q.2.2 (D.2.2.2.1 i) U) ∧ z_G2 b Z U
theorem z_G.warm {D : zD} {b : Nat} {Z : Heap} {s U : State} (hW : s.WarmedH U.vm) (h : z_G D b Z s) : z_G D b Z U :=
  ⟨va_K.moved hW.alike h.1, vx_Zq.moved hW.alike h.2.1, vx_Zq.moved hW.alike h.2.2.1, vk_S.moved hW.alike h.2.2.2.1, fun i q hq => vk_R.warm hW (h.2.2.2.2.1 i q hq), z_G2.warm hW h.2.2.2.2.2⟩
theorem z_G.same {D : zD} {b : Nat} {Z : Heap} {s U : State} (hv : U.vm = s.vm) (h : z_G D b Z s) : z_G D b Z U := h.warm (by rw [hv]; exact State.WarmedH.refl s)
/-- a method's end -/
def z_Qc (D : zD) (b : Nat) (Z : Heap) (MF : zM) (F : String ⊕ Option Value) : Array Value → State → Outcome → State → Prop := fun _ _ o t => ∃ v, F = .inr v ∧ o = .returned v ∧ z_Inv D b Z MF t.heap
def z_XC (D : zD) (b : Nat) (Z : Heap) (MF : zM) (F : String ⊕ Option Value) : String → State → State → Prop := fun E _ t => F = .inl E ∧ z_Inv D b Z MF t.heap
def z_fin {α : Type} (iv : α → Option Value) (r : String ⊕ α) : String ⊕ Option Value := match r with
  | .inl E => .inl E
  | .inr a => .inr (iv a)
abbrev z_ivI : Int32 → Option Value := fun v => some (.int v)
abbrev z_ivV : Unit → Option Value := fun _ => none
abbrev z_ivJ : Int64 → Option Value := fun v => some (.long v)
/-- the method y does what the program says -/
def z_Sound {α : Type} (y : MethodName) (cc : ByteArray) (nL : Nat) (rt : Option FieldType) (fr lo : Nat) (As : zD → Nat → List Value) (iv : α → Option Value) (prog : zP α) : Prop :=
  ∀ (l : Launch) (D : zD) (b : Nat) (Z : Heap) (M M' : zM) (r : String ⊕ α), l.stackTraces = false → prog.1 M = some (r, M') →
    vx_Met l y (.code y cc nL rt :: XT) ({ frames := fr, locals := lo, cells := z_nx M' - z_nx M, slots := z_sl M' - z_sl M }) (va_Pc (As D b) (fun U => z_G D b Z U ∧ z_Inv D b Z M U.heap))
      (z_Qc D b Z M' (z_fin iv r)) (z_XC D b Z M' (z_fin iv r)) (z_nx M' - z_nx M) (z_sl M' - z_sl M) (fun q => b ≤ q)
/-- where a walk stands: the machine's frame of a method, and the method's start and end -/
abbrev zX : Type := (Program × Launch × Env × Room × State × MethodId × Array Value × List Frame × Method × Code) × (zD × Nat × Heap × zM × zM × (String ⊕ Option Value))
abbrev x_p (X : zX) : Program := X.1.1
abbrev x_l (X : zX) : Launch := X.1.2.1
abbrev x_e (X : zX) : Env := X.1.2.2.1
abbrev x_R (X : zX) : Room := X.1.2.2.2.1
abbrev x_s (X : zX) : State := X.1.2.2.2.2.1
abbrev x_m (X : zX) : MethodId := X.1.2.2.2.2.2.1
abbrev x_args (X : zX) : Array Value := X.1.2.2.2.2.2.2.1
abbrev x_below (X : zX) : List Frame := X.1.2.2.2.2.2.2.2.1
abbrev x_meth (X : zX) : Method := X.1.2.2.2.2.2.2.2.2.1
abbrev x_c (X : zX) : Code := X.1.2.2.2.2.2.2.2.2.2
def x_D (X : zX) : zD := X.2.1
def x_b (X : zX) : Nat := X.2.2.1
abbrev x_Z (X : zX) : Heap := X.2.2.2.1
abbrev x_M0 (X : zX) : zM := X.2.2.2.2.1
abbrev x_MF (X : zX) : zM := X.2.2.2.2.2.1
abbrev x_F (X : zX) : String ⊕ Option Value := X.2.2.2.2.2.2
abbrev x_Inv (X : zX) (M : zM) (H : Heap) : Prop := z_Inv (x_D X) (x_b X) (x_Z X) M H
def z_W (X : zX) (pc : Nat) (ls : Array Slot) (st : List Value) (H : Heap) (locs : List Loc) (M : zM) : Prop :=
  W (x_p X) (x_l X) (x_e X) (x_R X) (x_s X) (x_m X) (x_args X) (x_below X) (x_meth X) (x_c X) H locs (z_nx M - z_nx (x_M0 X)) (z_sl M - z_sl (x_M0 X))
    (vx_MQ (x_below X) (z_Qc (x_D X) (x_b X) (x_Z X) (x_MF X) (x_F X)) (z_XC (x_D X) (x_b X) (x_Z X) (x_MF X) (x_F X)) (x_args X) (x_s X) (z_nx (x_MF X) - z_nx (x_M0 X)) (z_sl (x_MF X) - z_sl (x_M0 X)) (fun q => x_b X ≤ q))
    (F0 (x_m X) pc ls st)
/-- what holds throughout a walk of method y -/
def z_Ok (X : zX) (y : MethodName) (cc : ByteArray) (nL : Nat) (rt : Option FieldType) (fr lo : Nat) : Prop :=
  (x_p X).tables.exec = Jvm.exec ∧ (x_c X).code = cc ∧ (x_c X).maxLocals = nL ∧ (x_s X).vm.findClass y.cls = some (x_m X).cls ∧ (∀ w ∈ XT, w.before (x_args X) (x_s X) = true) ∧ (x_meth X).locks = false ∧ True ∧
  z_G (x_D X) (x_b X) (x_Z X) (x_s X) ∧ (x_R X).frames = fr ∧ (x_R X).locals = lo ∧ z_nx (x_MF X) - z_nx (x_M0 X) ≤ (x_R X).cells ∧ z_sl (x_MF X) - z_sl (x_M0 X) ≤ (x_R X).slots ∧ (x_l X).stackTraces = false ∧ (x_meth X).name = y.name ∧ (x_meth X).sig.returnType = rt ∧
  x_Inv X (x_M0 X) (x_s X).heap
/-- the method has no handlers -/
def z_Nt (X : zX) : Prop := ∀ x ∈ (x_c X).exceptionTable.toList, False
/-- from here the machine does what the program says -/
def z_Sim {β : Type} (X : zX) (nL : Nat) (K : String ⊕ β → zM → Prop) (pc : Nat) (lv : List (Nat × Value)) (st : List Value) (prog : zP β) : Prop :=
  ∀ (M : zM) (H : Heap) (locs : List Loc) (ls : Array Slot) (r : String ⊕ β) (M1 : zM), x_Inv X M H → (∀ q ∈ locs, x_b X ≤ q.base) → z_le (x_M0 X) M → lv_has ls nL lv → prog.1 M = some (r, M1) → K r M1 → z_le M1 (x_MF X) → z_W X pc ls st H locs M
/-- the end of a method -/
def z_K0 {β : Type} (X : zX) (iv : β → Option Value) : String ⊕ β → zM → Prop := fun r M => M = x_MF X ∧ x_F X = z_fin iv r
theorem z_ofSim {β : Type} {y : MethodName} {cc : ByteArray} {nL : Nat} {rt : Option FieldType} {fr lo : Nat} {As : zD → Nat → List Value} {iv : β → Option Value} {prog : zP β} (hy : plainName y.cls = true) (hcap : ∀ D b, (lg_sl (As D b)).length ≤ nL)
    (h : ∀ X : zX, z_Ok X y cc nL rt fr lo → z_Nt X → z_Sim X nL (z_K0 X iv) 0 (lv_args 0 (As (x_D X) (x_b X))) [] prog) : z_Sound y cc nL rt fr lo As iv prog := by
  intro l D b Z M M' r hst hr
  refine vx_ofW (cc := cc) (maxL := nL) (ret := rt) hy rfl ?_
  intro p e s m args below meth c s₁ B hml hex hv
  obtain ⟨rfl, hG, hI⟩ := hv
  have hts := atoms_spec (ws := .code y cc nL rt :: XT) B.pre
  have C : z_Ok ((p, l, e, ({ frames := fr, locals := lo, cells := z_nx M' - z_nx M, slots := z_sl M' - z_sl M } : Room), s, m, (As D b).toArray, below, meth, c), (D, b, Z, M, M', z_fin iv r)) y cc nL rt fr lo :=
    ⟨B.exec, B.bytes, hml, findClass_of_methodNamed B.named, fun w hw => hts w (List.mem_cons_of_mem _ hw), B.notSynchronized, trivial, hG, rfl, rfl, Nat.le_refl _, Nat.le_refl _, hst, (name_of_methodNamed B.named B.method).1, B.returns, hI⟩
  have hl := lv_entry (As D b) (n := nL) (hcap D b)
  rw [lg_entry_eq]
  have h1 := h _ C hex M s.heap [] _ r M' hI (fun q hq => by cases hq) (z_le.rf _) hl hr ⟨rfl, rfl⟩ (z_le.rf _)
  have h2 : W p l e ({ frames := fr, locals := lo, cells := z_nx M' - z_nx M, slots := z_sl M' - z_sl M } : Room) s m (As D b).toArray below meth c s.heap [] (z_nx M - z_nx M) (z_sl M - z_sl M) (vx_MQ below (z_Qc D b Z M' (z_fin iv r)) (z_XC D b Z M' (z_fin iv r)) (As D b).toArray s (z_nx M' - z_nx M) (z_sl M' - z_sl M) (fun q => b ≤ q)) (F0 m 0 (lg_sl (As D b) ++ List.replicate (nL - (lg_sl (As D b)).length) Slot.unset).toArray []) := h1
  rw [Nat.sub_self, Nat.sub_self] at h2
  exact h2
