/-! ===== PHASE 2: the model's search, whole; tourMinutes and tourStop ===== -/
section PA40
variable {β : Type} {M : zM} {F : Nat → Nat → Int32} {ct cd st bf : Nat → Int32} {i j k q c sp n ns nt np nc L : Nat} {H : List (Nat → Int32)} {S : Nat → Option (Nat → Int32)} {v w x y code : Int32} {xs : Nat → Int32} {f : Unit → zP β}
variable {cap home t p ld : Nat}
theorem tq_set1 : tq_set ld ld = 2 ^ ld := by
  unfold tq_set
  rw [Nat.pow_succ]
  omega
theorem m_find (h : L9 M) (e78 : F 78 = ct) (e83 : F 83 = st) (hc : c_ok ct cd ns nt np nc) (hn : n_ok ct st ns nt) (hc20 : cap ≤ 20) (ht : t < 3) (hcap : ct (45 + t) = nI cap) (hp : p < ns) (h5 : s_tr st t 0 = nI p) (hld : s_tr st t 4 = nI ld) (hlc : ld ≤ cap) :
    ∃ F', (p_X9_findTour 75 (nI t)).1 (KI M F) = some (.inr (), KI M F') ∧ tmd 0 F F' ∧ TB (F' 75 27) (F' 75 28) (F' 89) (tq_d (tqq ct st ns cap p) 10 [] p 0 0 ld ld none) := by
  have hns := hc.1.2.1
  have e0 : ct 0 = nI ns := hc.1.1
  obtain ⟨F0, eF0⟩ : ∃ F0, F0 = z_up2 (z_up2 F 75 27 (-1)) 75 28 0 := ⟨_, rfl⟩
  have f78 : F0 78 = ct := by rw [eF0, u2_row _ _ (by omega), u2_row _ _ (by omega)]; exact e78
  have f83 : F0 83 = st := by rw [eF0, u2_row _ _ (by omega), u2_row _ _ (by omega)]; exact e83
  have md0 : tmd 0 F F0 := by rw [eF0]; exact tmd_tr (tmd_u (by omega)) (tmd_u (by omega))
  have hB0 : TB (F0 75 27) (F0 75 28) (F0 89) none := by
    rw [eF0]
    exact ⟨by rw [u2_n _ _ (Or.inr (by omega)), u2_s], u2_s _ _ _ _⟩
  have hr0 : ¬ nI (tq_set ld ld) = 0 := by
    intro e
    have g1 := li_bt (k := ld) (Nat.le_refl ld) (by omega)
    rw [e, bt_0] at g1
    simp at g1
  have hsh : (1 : Int32) <<< (nI ld &&& 31) = nI (tq_set ld ld) := by rw [one_shl (by omega), tq_set1]
  obtain ⟨F1, k1, k2, k3, k4, k5⟩ := m_ct (cap := cap) (home := p) (f := fun _ => (z_lp (mb_body t) 0)) (pl := p) (V := 0) (m := 0) (P := []) (b := none) h f78 f83 hc hn hr0 (by omega) (by simp) (by omega) hB0 (fun j z hz => by simp at hz)
  have hrun : (p_X9_findTour 75 (nI t)).1 (KI M F) = (z_lp (mb_body t) (nI 0)).1 (KI M F1) := by
    refine Eq.trans ?_ k1
    unfold p_X9_findTour
    rw [kn_pI h, kn_pI h, ← eF0, kn_cv h, kn_of0 h ht, f83, h5, kn_cv h, kn_of4 h ht, f83, hld, hsh, kn_cv h]
    rfl
  have hend : ∀ G, (z_lp (mb_body t) (nI 0 + (-1))).1 (KI M G) = some (.inr (), KI M G) := fun G => by
    refine z_lp_end ?_
    rfl
  have hpop : F1 94 0 = 8 → (p_X9_findTour 75 (nI t)).1 (KI M F) = some (.inr (), KI M (z_up2 F1 94 0 (nI (8 + 1)))) := fun c94 => by
    rw [hrun, m_pop (ns := ns) (v := 8) h (by rw [k2 78 0 (by simp), f78]; exact e0) hns (by omega) (by omega) (by omega) c94, hend]
  have ed : tq_d (tqq ct st ns cap p) 10 [] p 0 0 ld ld none = if tq_wo none 0 ([] : List Nat).length then none else if tq_evn (tqq ct st ns cap p) 0 then some (0, []) else tq_fd (tq_ch (tqq ct st ns cap p) (tq_d (tqq ct st ns cap p) 9) [] p 0 0 ld ld) ns 0 none := rfl
  rw [ed]
  rcases k5 with ⟨w1, _⟩ | ⟨w1, w2, w3, w4⟩ | ⟨w1, w2, w3, w4⟩
  · exact absurd w1 tq_wo_n
  · rw [if_neg w1, if_pos w2]
    refine ⟨_, hpop w3, tmd_tr md0 (tmd_tr k2 (tmd_u (by simp))), ?_⟩
    rw [u2_row _ _ (by omega), u2_row _ _ (by omega)]
    exact w4
  · rw [if_neg w1, if_neg w2]
    obtain ⟨F2, v1, v2, v3⟩ := m_node (t := t) (home := p) h hc hn hc20 ht hcap 9 [] p 0 0 ld ld rfl (tq_root hlc hp) (fun _ => rfl) w2 ns 0 F1 none (by omega) (funext (fun z => (k2 78 z (by simp)).trans (congrFun f78 z))) (funext (fun z => (k2 83 z (by simp)).trans (congrFun f83 z))) k3 (fun j z hz => by simp at hz) w4 w3
    refine ⟨F2, ?_, tmd_tr md0 (tmd_tr k2 v2), v3⟩
    rw [hrun]
    exact v1.trans (hend F2)
end PA40
