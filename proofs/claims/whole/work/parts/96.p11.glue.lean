/-! ===== PHASE 2: a call of the law ===== -/
def INV (k : Nat) (M : zM) : Prop := ∃ c sp ct cd ns nt np nc st H S n bf, CI k M c sp ct cd ns nt np nc st H S n bf ∧ MI M ct cd st H S n bf
def STEP (p : zP (Int32 ⊕ Int32)) (k : Nat) (M : zM) (i : Nat) : Prop := ∃ M', p.1 M = some (.inr (.inl (nI i + 6)), M') ∧ INV (k + 1) M' ∧ z_nx M' ≤ z_nx M + 20 ∧ z_sl M' ≤ z_sl M + 1000
/-- the class's part of a call -/
def cres {α : Type} (pc : zP α) (k : Nat) (M : zM) (v : α) (c sp : Nat) (ct cd : Nat → Int32) (ns nt np nc : Nat) (st : Nat → Int32) (H : List (Nat → Int32)) (S : Nat → Option (Nat → Int32)) (n : Nat) (bf : Nat → Int32) : Prop := ∃ M1, pc.1 M = some (.inr v, M1) ∧ CI (k + 1) M1 c sp ct cd ns nt np nc st H S n bf ∧ (L9 M → L9 M1) ∧ (∀ y, 75 ≤ y → y < 95 → z_i M1 y = z_i M y) ∧ z_nx M1 ≤ z_nx M + 18 ∧ z_sl M1 ≤ z_sl M + 992
/-- the model's part of a call -/
def mres (pm : zP Int32) (M : zM) (v code : Int32) (ct cd st : Nat → Int32) (H : List (Nat → Int32)) (S : Nat → Option (Nat → Int32)) (n : Nat) (bf : Nat → Int32) : Prop := ∃ F, pm.1 M = some (.inr v, KI M F) ∧ F 75 0 = code ∧ (∀ y, ¬ (75 ≤ y ∧ y < 95) → F y = z_i M y) ∧ MI (KI M F) ct cd st H S n bf
section PA11
variable {α : Type} {M M' M1 : zM} {F : Nat → Nat → Int32} {ct cd st bf ct' cd' st' bf' : Nat → Int32} {i k c sp n ns nt np nc c' sp' n' ns' nt' np' nc' : Nat} {H H' : List (Nat → Int32)} {S S' : Nat → Option (Nat → Int32)} {v w code : Int32} {xs : Nat → Int32} {L j : Nat} {pc pm : zP Int32} {hE : String → zP Int32} {E : String}
theorem e_ct {β : Type} {p : zP α} {h : String → zP β} {f : α → zP β} {a : α} (e : p.1 M = some (.inr a, M1)) : (z_ct p h f).1 M = (f a).1 M1 := by
  show (match p.1 M with | none => none | some (.inl E, M1) => (h E).1 M1 | some (.inr a, M1) => (f a).1 M1) = _
  rw [e]
theorem e_ctt {β : Type} {p : zP α} {h : String → zP β} {f : α → zP β} (e : p.1 M = some (.inl E, M1)) : (z_ct p h f).1 M = (h E).1 M1 := by
  show (match p.1 M with | none => none | some (.inl E, M1) => (h E).1 M1 | some (.inr a, M1) => (f a).1 M1) = _
  rw [e]
theorem z_xs_ok (hj : j < L) (hL : L ≤ 3072) : z_xs xs L (nI j) = z_pu (xs j) := by
  unfold z_xs
  rw [nI_clamp (by omega), if_pos ⟨nI_pos (by omega), hj⟩]
theorem lg_rf (x : Int64) : lg_cmp x x = 0 := by
  unfold lg_cmp
  rw [if_neg (Int64.lt_irrefl), if_pos rfl]
theorem cres_of (h : CI k M c sp ct cd ns nt np nc st H S n bf) {p : zP α} {a : α} (e : p.1 M = some (.inr a, M)) : cres p k M a c sp ct cd ns nt np nc st H S n bf := ⟨M, e, CI_kk h (by omega), id, fun _ _ _ => rfl, by omega, by omega⟩
theorem cres_loc (h : CI k M c sp ct cd ns nt np nc st H S n bf) {p : zP α} {a : α} (e : p.1 M = some (.inr a, M1)) (g : loc c sp M M1) (h9 : L9 M → L9 M1) (hF : ∀ y, 75 ≤ y → y < 95 → z_i M1 y = z_i M y) (h1 : z_nx M1 ≤ z_nx M + 18) (h2 : z_sl M1 ≤ z_sl M + 992) : cres p k M a c sp ct cd ns nt np nc st H S n bf := ⟨M1, e, CI_kk (CI_loc h g) (by omega), h9, hF, h1, h2⟩
theorem MI_F (h : MI M ct cd st H S n bf) (hF : ∀ y, (y = 76 ∨ y = 78 ∨ y = 80 ∨ (83 ≤ y ∧ y ≤ 86)) → F y = z_i M y) (h2 : F 75 2 = z_i M 75 2) (h21 : F 75 21 = z_i M 75 21) : MI (KI M F) ct cd st H S n bf := by
  show L9 M ∧ (F 78 = ct ∧ F 80 = cd ∧ F 83 = st) ∧ (F 75 21 = nI H.length ∧ ∀ i s, H[i]? = some s → ∀ j, j < 3277 → F 84 (3277 * i + j) = s j) ∧ (∀ i, i < 2 → (S i = none → F 86 i = 0) ∧ ∀ s, S i = some s → F 86 i = 1 ∧ ∀ j, j < 3277 → F 85 (3277 * i + j) = s j) ∧ (F 75 2 = nI n ∧ ∀ i, i < n → F 76 i = bf i ∧ ∃ b : Int8, bf i = b.toInt32)
  rw [hF 78 (by omega), hF 80 (by omega), hF 83 (by omega), hF 84 (by omega), hF 86 (by omega), hF 85 (by omega), hF 76 (by omega), h2, h21]
  exact h
theorem mres_rd (h : MI M ct cd st H S n bf) (e : pm.1 M = some (.inr v, KI M F)) (hc : F 75 0 = code) (hF : ∀ y, (y < 75 ∨ 95 ≤ y ∨ y = 76 ∨ y = 78 ∨ y = 80 ∨ (83 ≤ y ∧ y ≤ 86)) → F y = z_i M y) (h2 : F 75 2 = z_i M 75 2) (h21 : F 75 21 = z_i M 75 21) : mres pm M v code ct cd st H S n bf := ⟨F, e, hc, fun y hy => hF y (by omega), MI_F h (fun y hy => hF y (by omega)) h2 h21⟩
/-- only the answer's kind is new -/
theorem mres_th (h : MI M ct cd st H S n bf) (e : pm.1 M = some (.inr v, KI M (z_up2 (z_i M) 75 0 code))) : mres pm M v code ct cd st H S n bf := mres_rd h e (u2_s _ _ _ _) (fun y hy => u2_row _ _ (by omega)) (u2_n _ _ (by omega)) (u2_n _ _ (by omega))
theorem mres_th2 (h : MI M ct cd st H S n bf) (e : pm.1 M = some (.inr v, KI M (z_up2 (z_up2 (z_i M) 75 0 w) 75 0 code))) : mres pm M v code ct cd st H S n bf := mres_rd h e (u2_s _ _ _ _) (fun y hy => by rw [u2_row _ _ (by omega), u2_row _ _ (by omega)]) (by rw [u2_n _ _ (by omega), u2_n _ _ (by omega)]) (by rw [u2_n _ _ (by omega), u2_n _ _ (by omega)])
theorem CI_M (h : CI k M c sp ct cd ns nt np nc st H S n bf) (x : Int64) (hF : ∀ y, ¬ (75 ≤ y ∧ y < 95) → F y = z_i M y) : CI k (KI (z_wj M 95 0 x) F) c sp ct cd ns nt np nc st H S n bf := CI_loc h ⟨Nat.le_refl _, fun _ _ => ⟨rfl, rfl⟩, fun _ _ _ _ => rfl, fun y _ hn => hF y (by unfold scr at hn; omega)⟩
theorem CI_M0 (h : CI k M c sp ct cd ns nt np nc st H S n bf) (hF : ∀ y, ¬ (75 ≤ y ∧ y < 95) → F y = z_i M y) : CI k (KI M F) c sp ct cd ns nt np nc st H S n bf := CI_loc h ⟨Nat.le_refl _, fun _ _ => ⟨rfl, rfl⟩, fun _ _ _ _ => rfl, fun y _ hn => hF y (by unfold scr at hn; omega)⟩
theorem L0_out (h : L0 M) : z_in 15 95 0 M := n_in (k := 0) (k0_ar95 h).1 (k0_ar95 h).2 (by decide) (by decide)
/-- a call whose answer goes through the law's row -/
theorem glue_r (hI : CI k M c sp ct cd ns nt np nc st H S n bf) (hm : MI M ct cd st H S n bf) (hc : cres pc k M v c' sp' ct' cd' ns' nt' np' nc' st' H' S' n' bf') (hp : ∀ M1, MI M1 ct cd st H S n bf → mres pm M1 v 0 ct' cd' st' H' S' n' bf') :
    STEP (z_bd (z_ct (z_cv 8 0 pc) hE (fun r1 => (z_bd (z_sJ 15 95 0 ((r1 : Int32).toInt64)) (fun _ => (z_pu 0))))) (fun r102 => (z_bd (z_cv 9 75 pm) (fun r104 => (z_bd (z_cv 9 75 (p_X9_thrown 75)) (fun r105 => (if r105 = r102 then (if r102 = 0 then (z_bd (z_aJ 15 95 0) (fun v106 => (if (lg_cmp v106 ((r104 : Int32).toInt64)) = 0 then (z_pu (.inl ((nI i + 6)))) else (z_pu (.inr 0))))) else (z_pu (.inl ((nI i + 6))))) else (z_pu (.inr 0))))))))) k M i := by
  obtain ⟨M1, e1, c1, l9, f1, x1, x2⟩ := hc
  have h0 := hI.1.1
  have h01 := c1.1.1
  have h91 := l9 hm.1
  have hout := L0_out h01
  obtain ⟨F, m1, m2, m3, m4⟩ := hp (z_wj M1 95 0 v.toInt64) (MI_tr hm h91 f1)
  refine ⟨KI (z_wj M1 95 0 v.toInt64) F, ?_, ⟨c', sp', ct', cd', ns', nt', np', nc', st', H', S', n', bf', CI_M c1 _ m3, m4⟩, by show z_nx M1 ≤ _; omega, by show z_sl M1 ≤ _; omega⟩
  have ew : (z_ct (z_cv 8 0 pc) hE (fun r1 => (z_bd (z_sJ 15 95 0 ((r1 : Int32).toInt64)) (fun _ => (z_pu 0))))).1 M = some (.inr 0, z_wj M1 95 0 v.toInt64) := by
    refine (e_ct ((z_cv_pos (k0_is0 h0)).trans e1)).trans ?_
    exact e_sJ hout
  refine (e_run ew).trans ?_
  refine (e_run ((z_cv_pos (q9_is (M := z_wj M1 95 0 v.toInt64) h91)).trans m1)).trans ?_
  have h9K : L9 (KI (z_wj M1 95 0 v.toInt64) F) := h91
  rw [e_cv (q9_is h9K)]
  unfold p_X9_thrown
  rw [b_bd, q9_gI h9K]
  have e0 : z_i (KI (z_wj M1 95 0 v.toInt64) F) 75 0 = 0 := m2
  rw [b_pu, e0, if_pos rfl, if_pos rfl, e_aJ (L0_out (M := KI (z_wj M1 95 0 v.toInt64) F) h01)]
  have ej : z_j (KI (z_wj M1 95 0 v.toInt64) F) 95 (0 : Int32).toNatClampNeg = v.toInt64 := by
    show z_up2 (z_j M1) 95 0 v.toInt64 95 0 = _
    exact if_pos ⟨rfl, rfl⟩
  rw [ej, lg_rf, if_pos rfl]
  rfl
/-- a call that throws -/
theorem glue_t (hI : CI k M c sp ct cd ns nt np nc st H S n bf) (hm : MI M ct cd st H S n bf) (hc : pc.1 M = some (.inl E, z_mk M 99 0 6)) (hh : hE E = z_pu code) (h0c : ¬ code = 0) (hp : ∀ M1, MI M1 ct cd st H S n bf → mres pm M1 w code ct cd st H S n bf) :
    STEP (z_bd (z_ct (z_cv 8 0 pc) hE (fun r1 => (z_bd (z_sJ 15 95 0 ((r1 : Int32).toInt64)) (fun _ => (z_pu 0))))) (fun r102 => (z_bd (z_cv 9 75 pm) (fun r104 => (z_bd (z_cv 9 75 (p_X9_thrown 75)) (fun r105 => (if r105 = r102 then (if r102 = 0 then (z_bd (z_aJ 15 95 0) (fun v106 => (if (lg_cmp v106 ((r104 : Int32).toInt64)) = 0 then (z_pu (.inl ((nI i + 6)))) else (z_pu (.inr 0))))) else (z_pu (.inl ((nI i + 6))))) else (z_pu (.inr 0))))))))) k M i := by
  have h0 := hI.1.1
  have hm1 : MI (z_mk M 99 0 6) ct cd st H S n bf := MI_ext hm (ext_mk 99 0 6)
  have hI1 : CI k (z_mk M 99 0 6) c sp ct cd ns nt np nc st H S n bf := CI_loc hI (loc_ext (ext_mk 99 0 6))
  obtain ⟨F, m1, m2, m3, m4⟩ := hp _ hm1
  refine ⟨KI (z_mk M 99 0 6) F, ?_, ⟨c, sp, ct, cd, ns, nt, np, nc, st, H, S, n, bf, CI_kk (k := k) (CI_M0 hI1 m3) (by omega), m4⟩, by show z_nx M + 1 ≤ _; omega, by show z_sl M + 6 ≤ _; omega⟩
  have ew : (z_ct (z_cv 8 0 pc) hE (fun r1 => (z_bd (z_sJ 15 95 0 ((r1 : Int32).toInt64)) (fun _ => (z_pu 0))))).1 M = some (.inr code, z_mk M 99 0 6) := by
    refine (e_ctt ((z_cv_pos (k0_is0 h0)).trans hc)).trans ?_
    rw [hh]
    rfl
  refine (e_run ew).trans ?_
  refine (e_run ((z_cv_pos (q9_is hm1.1)).trans m1)).trans ?_
  have h9K : L9 (KI (z_mk M 99 0 6) F) := hm1.1
  rw [e_cv (q9_is h9K)]
  unfold p_X9_thrown
  rw [b_bd, q9_gI h9K]
  have e0 : z_i (KI (z_mk M 99 0 6) F) 75 0 = code := m2
  rw [b_pu, e0, if_pos rfl, if_neg h0c]
  rfl
/-- a call whose answer is compared at once -/
theorem glue_p (hI : CI k M c sp ct cd ns nt np nc st H S n bf) (hm : MI M ct cd st H S n bf) (hc : cres pc k M v c' sp' ct' cd' ns' nt' np' nc' st' H' S' n' bf') (hp : ∀ M1, MI M1 ct cd st H S n bf → mres pm M1 v 0 ct' cd' st' H' S' n' bf') :
    STEP (z_bd (z_cv 8 0 pc) (fun r101 => (z_bd (z_cv 9 75 pm) (fun r102 => (if r101 = r102 then (z_pu (.inl ((nI i + 6)))) else (z_pu (.inr 0))))))) k M i := by
  obtain ⟨M1, e1, c1, l9, f1, x1, x2⟩ := hc
  have h91 := l9 hm.1
  obtain ⟨F, m1, m2, m3, m4⟩ := hp M1 (MI_tr hm h91 f1)
  refine ⟨KI M1 F, ?_, ⟨c', sp', ct', cd', ns', nt', np', nc', st', H', S', n', bf', CI_M0 c1 m3, m4⟩, by show z_nx M1 ≤ _; omega, by show z_sl M1 ≤ _; omega⟩
  refine (e_run ((z_cv_pos (k0_is0 hI.1.1)).trans e1)).trans ?_
  refine (e_run ((z_cv_pos (q9_is h91)).trans m1)).trans ?_
  rw [if_pos rfl]
  rfl
end PA11
