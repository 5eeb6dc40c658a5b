/-! ===== rows: calls ===== -/
/-- a method of the tables: its code, what is said of its name -/
def z_Mt (y : MethodName) (cc : ByteArray) (nL : Nat) (rt : Option FieldType) (n : Nat) : Prop := Cond.code y cc nL rt ∈ XT ∧ Cond.initialized y.cls ∈ XT ∧ y.cls ≠ "java/lang/invoke/MethodHandle" ∧ y.cls ≠ "java/lang/invoke/VarHandle" ∧ (parseMethodDescriptor y.desc).map (fun d => d.parameters.length) = some n
section ZL
variable {β : Type} {X : zX} {y : MethodName} {cc : ByteArray} {nL : Nat} {rt : Option FieldType} {fr lo : Nat} {K : String ⊕ β → zM → Prop} {pc : Nat} {lv : List (Nat × Value)} {st : List Value} {g : zP β}
variable {α : Type} {y2 : MethodName} {cc2 : ByteArray} {nL2 : Nat} {rt2 : Option FieldType} {fr2 lo2 : Nat} {As2 : zD → Nat → List Value} {iv2 : α → Option Value} {prog : zP α}
theorem z_blind {D : zD} {b : Nat} {Z : Heap} {M : zM} {As : List Value} : FrameBlind (va_Pc As (fun U => z_G D b Z U ∧ z_Inv D b Z M U.heap)) := fun _ _ _ _ h => ⟨h.1, z_G.same rfl h.2.1, h.2.2⟩
theorem z_afterRun (C : z_Ok X y cc nL rt fr lo) {M M2 : zM} {H : Heap} {locs : List Loc} {ls : Array Slot} {st0 rest : List Value} {ar : Array Value} {r2 : String ⊕ α} (hL : ∀ q ∈ locs, x_b X ≤ q.base) (h0 : z_le (x_M0 X) M) (h2 : z_le M M2) (hF : z_le M2 (x_MF X))
    (hrun : vx_Run (x_p X) (x_l X) (x_e X) (x_R X) (x_s X) (x_m X) (x_args X) (x_below X) (x_meth X) (x_c X) H locs (z_nx M - z_nx (x_M0 X)) (z_sl M - z_sl (x_M0 X)) (z_nx M2 - z_nx M) (z_sl M2 - z_sl M) (F0 (x_m X) pc ls st0) rest (z_Qc (x_D X) (x_b X) (x_Z X) M2 (z_fin iv2 r2) ar) (z_XC (x_D X) (x_b X) (x_Z X) M2 (z_fin iv2 r2)) (fun q => x_b X ≤ q))
    (hret : ∀ a2, r2 = .inr a2 → ∀ H' locs', x_Inv X M2 H' → (∀ q ∈ locs', x_b X ≤ q.base) → z_W X (pc + 3) ls ((iv2 a2).toList ++ rest) H' locs' M2) (hthr : ∀ E, r2 = .inl E → (M2 = x_MF X ∧ x_F X = .inl E) ∧ z_Nt X) : z_W X pc ls st0 H locs M := by
  obtain ⟨r1, r2', r3, r4⟩ := z_room h0 h2 (z_le.rf _) hF
  intro T hT Xs
  rcases hrun T hT Xs with ⟨v, st₀, t, T', L, e0, X', hL', e1, e2, ⟨v', hv1, hv2, hI'⟩, stp⟩ | ⟨q, st₀, t, T', L, E, ce, e0, X', hL', e1, e2, ⟨hE, hI'⟩, hce, hcv, hcl, stp⟩
  · rw [r3, r4] at X'
    cases r2 with
    | inl E => cases hv1
    | inr a2 =>
      have hv1 : (Sum.inr (iv2 a2) : String ⊕ Option Value) = Sum.inr v' := hv1
      cases hv1
      have hv2 : Outcome.returned v = Outcome.returned (iv2 a2) := hv2
      cases hv2
      obtain ⟨t2, a1, b1⟩ := hret a2 rfl T'.heap (locs ++ L) (by rw [e1]; exact hI') (fun q hq => by
        rcases List.mem_append.mp hq with h | h
        · exact hL q h
        · exact hL' q h) T' rfl X'
      exact ⟨t2, stp t2 a1, b1⟩
  · cases r2 with
    | inr a2 => cases hE
    | inl E2 =>
      have hE : (Sum.inl E2 : String ⊕ Option Value) = Sum.inl E := hE
      cases hE
      obtain ⟨⟨hM, hv⟩, hnt⟩ := hthr E rfl
      have w : vx_W (x_p X) (x_l X) (x_e X) (x_R X) (x_s X) (x_m X) (x_args X) (x_below X) (x_meth X) (x_c X) T'.heap (locs ++ L) ((z_nx M - z_nx (x_M0 X)) + (z_nx M2 - z_nx M)) ((z_sl M - z_sl (x_M0 X)) + (z_sl M2 - z_sl M)) (vx_MQ (x_below X) (z_Qc (x_D X) (x_b X) (x_Z X) (x_MF X) (x_F X)) (z_XC (x_D X) (x_b X) (x_Z X) (x_MF X) (x_F X)) (x_args X) (x_s X) (z_nx (x_MF X) - z_nx (x_M0 X)) (z_sl (x_MF X) - z_sl (x_M0 X)) (fun q => x_b X ≤ q)) (F0 (x_m X) pc ls rest) q :=
        vx_out (E := E) (ce := ce) (fun x hx => (hnt x hx).elim) C.2.2.2.2.2.1 (by rw [e1]; exact hce) hcv hcl (fun t9 ht9 _ => ⟨hv, by rw [ht9, e1, ← hM]; exact hI'⟩) (fun q hq => by
          rcases List.mem_append.mp hq with h | h
          · exact hL q h
          · exact hL' q h) r1 r2'
      obtain ⟨t2, a1, b1⟩ := w T' rfl X'
      exact ⟨t2, stp.trans a1, b1⟩
theorem z_pre (C : z_Ok X y cc nL rt fr lo) {M : zM} {H : Heap} {As : List Value} (hI : x_Inv X M H) : ∀ U : State, U.heap = H → (x_s X).WarmedH U.vm → va_Pc As (fun U => z_G (x_D X) (x_b X) (x_Z X) U ∧ z_Inv (x_D X) (x_b X) (x_Z X) M U.heap) As.toArray U := fun U hU hW => ⟨rfl, z_G.warm hW C.G, by rw [hU]; exact hI⟩
/-- the callee's part of a call, out of its program's run -/
theorem z_bd_run {p : zP α} {k : α → zP β} {M M1 : zM} {r : String ⊕ β} (h : (z_bd p k).1 M = some (r, M1)) : ∃ (r2 : String ⊕ α) (M2 : zM), p.1 M = some (r2, M2) ∧ z_le M M2 ∧ z_le M2 M1 ∧ (∀ a, r2 = .inr a → (k a).1 M2 = some (r, M1)) ∧ (∀ E, r2 = .inl E → r = .inl E ∧ M2 = M1) := by
  rcases z_bd_inv h with ⟨a, M2, h1, h2⟩ | ⟨E, h1, h2⟩
  · exact ⟨_, M2, h1, p.2 _ _ _ h1, (k a).2 _ _ _ h2, (fun a' e => by cases e; exact h2), (fun E e => by cases e)⟩
  · exact ⟨_, M1, h1, p.2 _ _ _ h1, z_le.rf _, (fun a' e => by cases e), (fun E' e => by cases e; exact ⟨h2, rfl⟩)⟩
theorem z_cb (C : z_Ok X y cc nL rt fr lo) {idx n : Nat} {M M2 : zM} (hm : z_Mt y2 cc2 nL2 rt2 n) (hlk : Cond.methodLink y.cls idx y2 ∈ XT) (hroom : fr2 + 1 ≤ fr ∧ 8 + (nL2 + 11) + lo2 ≤ lo) :
    CallB (x_R X) (x_s X) (x_args X) y.cls idx y2 cc2 nL2 rt2 (.code y2 cc2 nL2 rt2 :: XT) ({ frames := fr2, locals := lo2, cells := z_nx M2 - z_nx M, slots := z_sl M2 - z_sl M }) (z_nx M2 - z_nx M) (z_sl M2 - z_sl M) n :=
  callB_of (Ts := XT) (ws' := XT) n C.ws (fun w hw => (List.mem_cons.mp hw).elim (fun e => by rw [e]; exact ⟨hm.1, XT_good _ hm.1⟩) (fun h => ⟨h, XT_good _ h⟩)) rfl rfl rfl (C.ws _ hm.2.1) (C.ws _ hlk) ⟨hm.2.2.1, hm.2.2.2.1, hm.2.2.2.2⟩ (by rw [C.2.2.2.2.2.2.2.2.1, C.2.2.2.2.2.2.2.2.2.1]; exact hroom)
theorem z_recv (C : z_Ok X y cc nL rt fr lo) {c a : Nat} {Cn : String} {T : u_T} {N : Nat} {M : zM} {H : Heap} (hC : z_Cl c Cn T N) (hI : x_Inv X M H) (ha : z_is c a M) : ∃ cellB : Cell, H[x_b X + a]? = some cellB ∧ cellB.vm.isStatics = false ∧ (x_s X).vm.findClass Cn = some cellB.cls := by
  obtain ⟨cell, q1, q2, q3, -⟩ := z_Inv.obj hI hC ha
  exact ⟨cell, q1, by rw [q3]; rfl, by rw [q2]; exact (C.kn.1 c _ hC.2.1).2.1⟩
theorem r_callV (C : z_Ok X y cc nL rt fr lo) {c a idx n N : Nat} {Cn : String} {T : u_T} {As rest : List Value} {kk : α → zP β} (hx : z_KX X K) (hS : z_Sound y2 cc2 nL2 rt2 fr2 lo2 As2 iv2 prog) (hm : z_Mt y2 cc2 nL2 rt2 n) (hC : z_Cl c Cn T N) (hd : decode cc pc = .ok (.invokevirtual idx, 3)) (hlk : Cond.methodLink y.cls idx y2 ∈ XT) (hin : Cond.instanceMethod y2 ∈ XT) (hse : Cond.selects Cn y2 y2 ∈ XT)
    (hAs : As2 (x_D X) (x_b X) = .ref (x_b X + a) :: As) (hn : As.length = n) (hst : st = As.reverse ++ .ref (x_b X + a) :: rest) (hW : (rest.map fun v => v.category).sum ≤ 8) (hroom : fr2 + 1 ≤ fr ∧ 8 + (nL2 + 11) + lo2 ≤ lo)
    (h : ∀ r, z_Sim X nL K (pc + 3) lv ((iv2 r).toList ++ rest) (kk r)) : z_Sim X nL K pc lv st (z_bd (z_cv c a prog) kk) := by
  intro M H locs ls r M1 hI hL h0 hl hp hK hF
  obtain ⟨r2, M2, p1, l1, l2, k1, k2⟩ := z_bd_run hp
  obtain ⟨ha, p1⟩ := z_gd_inv p1
  have hMet := hS (x_l X) (x_D X) (x_b X) (x_Z X) M M2 r2 C.2.2.2.2.2.2.2.2.2.2.2.2.1 p1
  rw [hAs] at hMet
  obtain ⟨q1, q2, -, -⟩ := z_room h0 l1 (z_le.rf _) (l2.tr hF)
  subst hst
  refine z_afterRun (rest := rest) (ar := (Value.ref (x_b X + a) :: As).toArray) (r2 := r2) C hL h0 l1 (l2.tr hF) (vx_runV (Ts := XT) (C := Cn) (own := y.cls) ⟨C.1, C.2.1, C.2.2.1, C.own, C.ws⟩ hMet ⟨z_cb C hm hlk hroom, C.ws _ hin, C.ws _ hse⟩ ⟨z_blind, z_recv C hC hI ha, z_pre C hI⟩ rfl hn hl.1 rfl (by show 2 * 0 + _ ≤ 8; omega) hd ⟨Nat.le_trans q1 C.2.2.2.2.2.2.2.2.2.2.1, Nat.le_trans q2 C.2.2.2.2.2.2.2.2.2.2.2.1⟩) ?_ ?_
  · intro a2 e H' locs' hI' hL'
    exact h a2 M2 H' locs' ls r M1 hI' hL' (h0.tr l1) hl (k1 a2 e) hK hF
  · intro E e
    obtain ⟨e1, e2⟩ := k2 E e
    subst e1
    rw [e2]
    exact ⟨hx.1 E M1 hK, hx.2⟩
theorem r_callS (C : z_Ok X y cc nL rt fr lo) {idx n : Nat} {As rest : List Value} {kk : α → zP β} (hx : z_KX X K) (hS : z_Sound y2 cc2 nL2 rt2 fr2 lo2 As2 iv2 prog) (hm : z_Mt y2 cc2 nL2 rt2 n) (hd : decode cc pc = .ok (.invokestatic idx, 3)) (hlk : Cond.methodLink y.cls idx y2 ∈ XT) (hsta : Cond.static y2 ∈ XT)
    (hAs : As2 (x_D X) (x_b X) = As) (hn : As.length = n) (hst : st = As.reverse ++ rest) (hW : (rest.map fun v => v.category).sum ≤ 8) (hroom : fr2 + 1 ≤ fr ∧ 8 + (nL2 + 11) + lo2 ≤ lo)
    (h : ∀ r, z_Sim X nL K (pc + 3) lv ((iv2 r).toList ++ rest) (kk r)) : z_Sim X nL K pc lv st (z_bd prog kk) := by
  intro M H locs ls r M1 hI hL h0 hl hp hK hF
  obtain ⟨r2, M2, p1, l1, l2, k1, k2⟩ := z_bd_run hp
  have hMet := hS (x_l X) (x_D X) (x_b X) (x_Z X) M M2 r2 C.2.2.2.2.2.2.2.2.2.2.2.2.1 p1
  rw [hAs] at hMet
  obtain ⟨q1, q2, -, -⟩ := z_room h0 l1 (z_le.rf _) (l2.tr hF)
  subst hst
  refine z_afterRun (rest := rest) (ar := As.toArray) (r2 := r2) C hL h0 l1 (l2.tr hF) (vx_runS (Ts := XT) (own := y.cls) ⟨C.1, C.2.1, C.2.2.1, C.own, C.ws⟩ hMet ⟨z_cb C hm hlk hroom, C.ws _ hsta⟩ ⟨z_blind, z_pre C hI⟩ rfl hn hl.1 rfl (by show 2 * 0 + _ ≤ 8; omega) hd ⟨Nat.le_trans q1 C.2.2.2.2.2.2.2.2.2.2.1, Nat.le_trans q2 C.2.2.2.2.2.2.2.2.2.2.2.1⟩) ?_ ?_
  · intro a2 e H' locs' hI' hL'
    exact h a2 M2 H' locs' ls r M1 hI' hL' (h0.tr l1) hl (k1 a2 e) hK hF
  · intro E e
    obtain ⟨e1, e2⟩ := k2 E e
    subst e1
    rw [e2]
    exact ⟨hx.1 E M1 hK, hx.2⟩
theorem r_callI (C : z_Ok X y cc nL rt fr lo) {a idx n : Nat} {As rest : List Value} {kk : α → zP β} (hx : z_KX X K) (hS : z_Sound y2 cc2 nL2 none fr2 lo2 As2 iv2 prog) (hm : z_Mt y2 cc2 nL2 none n) (hd : decode cc pc = .ok (.invokespecial idx, 3)) (hlk : Cond.methodLink y.cls idx y2 ∈ XT) (hin : Cond.instanceMethod y2 ∈ XT) (hnm : y2.name = "<init>")
    (hAs : As2 (x_D X) (x_b X) = .ref (x_b X + a) :: As) (hn : As.length = n) (hst : st = As.reverse ++ .ref (x_b X + a) :: rest) (hW : (rest.map fun v => v.category).sum ≤ 8) (hroom : fr2 + 1 ≤ fr ∧ 8 + (nL2 + 11) + lo2 ≤ lo)
    (h : ∀ r, z_Sim X nL K (pc + 3) lv ((iv2 r).toList ++ rest) (kk r)) : z_Sim X nL K pc lv st (z_bd prog kk) := by
  intro M H locs ls r M1 hI hL h0 hl hp hK hF
  obtain ⟨r2, M2, p1, l1, l2, k1, k2⟩ := z_bd_run hp
  have hMet := hS (x_l X) (x_D X) (x_b X) (x_Z X) M M2 r2 C.2.2.2.2.2.2.2.2.2.2.2.2.1 p1
  rw [hAs] at hMet
  obtain ⟨q1, q2, -, -⟩ := z_room h0 l1 (z_le.rf _) (l2.tr hF)
  subst hst
  refine z_afterRun (rest := rest) (ar := (Value.ref (x_b X + a) :: As).toArray) (r2 := r2) C hL h0 l1 (l2.tr hF) (vx_runI (Ts := XT) (own := y.cls) ⟨C.1, C.2.1, C.2.2.1, C.own, C.ws⟩ hMet ⟨z_cb C hm hlk hroom, hnm, C.ws _ hin⟩ ⟨z_blind, z_pre C hI⟩ rfl hn hl.1 rfl (by show 2 * 0 + _ ≤ 8; omega) hd ⟨Nat.le_trans q1 C.2.2.2.2.2.2.2.2.2.2.1, Nat.le_trans q2 C.2.2.2.2.2.2.2.2.2.2.2.1⟩) ?_ ?_
  · intro a2 e H' locs' hI' hL'
    exact h a2 M2 H' locs' ls r M1 hI' hL' (h0.tr l1) hl (k1 a2 e) hK hF
  · intro E e
    obtain ⟨e1, e2⟩ := k2 E e
    subst e1
    rw [e2]
    exact ⟨hx.1 E M1 hK, hx.2⟩
theorem r_callIN (C : z_Ok X y cc nL rt fr lo) {a idx n : Nat} {As rest : List Value} {kk : α → zP β} (hx : z_KX X K) (hS : z_Sound y2 cc2 nL2 none fr2 lo2 As2 iv2 prog) (hm : z_Mt y2 cc2 nL2 none n) (hd : decode cc pc = .ok (.invokespecial idx, 3)) (hlk : (y.cls, idx, y2) ∈ z_nest) (hin : Cond.instanceMethod y2 ∈ XT) (hnm : y2.name = "<init>")
    (hAs : As2 (x_D X) (x_b X) = .ref (x_b X + a) :: As) (hn : As.length = n) (hst : st = As.reverse ++ .ref (x_b X + a) :: rest) (hW : (rest.map fun v => v.category).sum ≤ 8) (hroom : fr2 + 1 ≤ fr ∧ 8 + (nL2 + 11) + lo2 ≤ lo)
    (h : ∀ r, z_Sim X nL K (pc + 3) lv ((iv2 r).toList ++ rest) (kk r)) : z_Sim X nL K pc lv st (z_bd prog kk) := by
  intro M H locs ls r M1 hI hL h0 hl hp hK hF
  obtain ⟨r2, M2, p1, l1, l2, k1, k2⟩ := z_bd_run hp
  have hMet := hS (x_l X) (x_D X) (x_b X) (x_Z X) M M2 r2 C.2.2.2.2.2.2.2.2.2.2.2.2.1 p1
  rw [hAs] at hMet
  obtain ⟨q1, q2, -, -⟩ := z_room h0 l1 (z_le.rf _) (l2.tr hF)
  subst hst
  refine z_afterRun (rest := rest) (ar := (Value.ref (x_b X + a) :: As).toArray) (r2 := r2) C hL h0 l1 (l2.tr hF) (vx_runIN (Ts := XT) (own := y.cls) ⟨C.1, C.2.1, C.2.2.1, C.own, C.ws⟩ hMet ⟨va_cnB (Ts := XT) (ws' := XT) n C.ws (fun w hw => (List.mem_cons.mp hw).elim (fun e => by rw [e]; exact ⟨hm.1, XT_good _ hm.1⟩) (fun h => ⟨h, XT_good _ h⟩)) rfl rfl rfl (C.G.2.2.2.2.2.2.2.1 _ hlk) (C.ws _ hm.2.1) ⟨hm.2.2.1, hm.2.2.2.1, hm.2.2.2.2⟩ (by rw [C.2.2.2.2.2.2.2.2.1, C.2.2.2.2.2.2.2.2.2.1]; exact hroom), hnm, C.ws _ hin⟩ ⟨z_blind, z_pre C hI⟩ rfl hn hl.1 rfl (by show 2 * 0 + _ ≤ 8; omega) hd ⟨Nat.le_trans q1 C.2.2.2.2.2.2.2.2.2.2.1, Nat.le_trans q2 C.2.2.2.2.2.2.2.2.2.2.2.1⟩) ?_ ?_
  · intro a2 e H' locs' hI' hL'
    exact h a2 M2 H' locs' ls r M1 hI' hL' (h0.tr l1) hl (k1 a2 e) hK hF
  · intro E e
    obtain ⟨e1, e2⟩ := k2 E e
    subst e1
    rw [e2]
    exact ⟨hx.1 E M1 hK, hx.2⟩
end ZL
