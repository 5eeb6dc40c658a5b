/-! ===== the law's start: from a run of its program to the machine ===== -/
def z_M0 : zM := ((0, 0), ((fun _ => 0), (fun _ => 0)), ((fun _ _ => 0), (fun _ _ => none), (fun _ _ => 0)))
def z_FLT : List Cond := flatC (Jvm.Cond.and given_1 narrow_1)
def z_tm (i : Nat) : Term := Term.string (z_ks.getD i ("", 0, "")).1 (z_ks.getD i ("", 0, "")).2.1
def z_zp : List Nat := [75, 101, 113, 124, 135, 147, 163, 178, 193, 212, 230, 249, 268, 304, 336, 367, 399, 435, 483, 536, 572, 613, 650, 690, 735]
theorem zu_ex : ∀ i, i < 25 → z_FLT[z_zp.getD i 0]? = some (Cond.exactly (z_tm i) "java/lang/String") := by decide +kernel
theorem zu_co : ∀ i, i < 25 → z_FLT[z_zp.getD i 0 + 1]? = some (Cond.eq (.field (z_tm i) "java/lang/String" "coder" "B") (.int 0)) := by decide +kernel
theorem zu_ar : ∀ i, i < 25 → z_FLT[z_zp.getD i 0 + 2]? = some (Cond.arrayOf (.field (z_tm i) "java/lang/String" "value" "[B") .byte) := by decide +kernel
theorem zu_le : ∀ i, i < 25 → z_FLT[z_zp.getD i 0 + 3]? = some (Cond.eq (.length (.field (z_tm i) "java/lang/String" "value" "[B")) (.int (Int32.ofNat (z_slen.getD i 0)))) := by decide +kernel
theorem zu_el0 : ∀ j, j < z_slen.getD 0 0 → z_FLT[75 + 4 + j]? = some (Cond.eq (.elem (.field (z_tm 0) "java/lang/String" "value" "[B") (.int (Int32.ofNat j))) (.int ((z_sbyt.getD 0 []).getD j 0))) := by decide +kernel
theorem zu_el1 : ∀ j, j < z_slen.getD 1 0 → z_FLT[101 + 4 + j]? = some (Cond.eq (.elem (.field (z_tm 1) "java/lang/String" "value" "[B") (.int (Int32.ofNat j))) (.int ((z_sbyt.getD 1 []).getD j 0))) := by decide +kernel
theorem zu_el2 : ∀ j, j < z_slen.getD 2 0 → z_FLT[113 + 4 + j]? = some (Cond.eq (.elem (.field (z_tm 2) "java/lang/String" "value" "[B") (.int (Int32.ofNat j))) (.int ((z_sbyt.getD 2 []).getD j 0))) := by decide +kernel
theorem zu_el3 : ∀ j, j < z_slen.getD 3 0 → z_FLT[124 + 4 + j]? = some (Cond.eq (.elem (.field (z_tm 3) "java/lang/String" "value" "[B") (.int (Int32.ofNat j))) (.int ((z_sbyt.getD 3 []).getD j 0))) := by decide +kernel
theorem zu_el4 : ∀ j, j < z_slen.getD 4 0 → z_FLT[135 + 4 + j]? = some (Cond.eq (.elem (.field (z_tm 4) "java/lang/String" "value" "[B") (.int (Int32.ofNat j))) (.int ((z_sbyt.getD 4 []).getD j 0))) := by decide +kernel
theorem zu_el5 : ∀ j, j < z_slen.getD 5 0 → z_FLT[147 + 4 + j]? = some (Cond.eq (.elem (.field (z_tm 5) "java/lang/String" "value" "[B") (.int (Int32.ofNat j))) (.int ((z_sbyt.getD 5 []).getD j 0))) := by decide +kernel
theorem zu_el6 : ∀ j, j < z_slen.getD 6 0 → z_FLT[163 + 4 + j]? = some (Cond.eq (.elem (.field (z_tm 6) "java/lang/String" "value" "[B") (.int (Int32.ofNat j))) (.int ((z_sbyt.getD 6 []).getD j 0))) := by decide +kernel
theorem zu_el7 : ∀ j, j < z_slen.getD 7 0 → z_FLT[178 + 4 + j]? = some (Cond.eq (.elem (.field (z_tm 7) "java/lang/String" "value" "[B") (.int (Int32.ofNat j))) (.int ((z_sbyt.getD 7 []).getD j 0))) := by decide +kernel
theorem zu_el8 : ∀ j, j < z_slen.getD 8 0 → z_FLT[193 + 4 + j]? = some (Cond.eq (.elem (.field (z_tm 8) "java/lang/String" "value" "[B") (.int (Int32.ofNat j))) (.int ((z_sbyt.getD 8 []).getD j 0))) := by decide +kernel
theorem zu_el9 : ∀ j, j < z_slen.getD 9 0 → z_FLT[212 + 4 + j]? = some (Cond.eq (.elem (.field (z_tm 9) "java/lang/String" "value" "[B") (.int (Int32.ofNat j))) (.int ((z_sbyt.getD 9 []).getD j 0))) := by decide +kernel
theorem zu_el10 : ∀ j, j < z_slen.getD 10 0 → z_FLT[230 + 4 + j]? = some (Cond.eq (.elem (.field (z_tm 10) "java/lang/String" "value" "[B") (.int (Int32.ofNat j))) (.int ((z_sbyt.getD 10 []).getD j 0))) := by decide +kernel
theorem zu_el11 : ∀ j, j < z_slen.getD 11 0 → z_FLT[249 + 4 + j]? = some (Cond.eq (.elem (.field (z_tm 11) "java/lang/String" "value" "[B") (.int (Int32.ofNat j))) (.int ((z_sbyt.getD 11 []).getD j 0))) := by decide +kernel
theorem zu_el12 : ∀ j, j < z_slen.getD 12 0 → z_FLT[268 + 4 + j]? = some (Cond.eq (.elem (.field (z_tm 12) "java/lang/String" "value" "[B") (.int (Int32.ofNat j))) (.int ((z_sbyt.getD 12 []).getD j 0))) := by decide +kernel
theorem zu_el13 : ∀ j, j < z_slen.getD 13 0 → z_FLT[304 + 4 + j]? = some (Cond.eq (.elem (.field (z_tm 13) "java/lang/String" "value" "[B") (.int (Int32.ofNat j))) (.int ((z_sbyt.getD 13 []).getD j 0))) := by decide +kernel
theorem zu_el14 : ∀ j, j < z_slen.getD 14 0 → z_FLT[336 + 4 + j]? = some (Cond.eq (.elem (.field (z_tm 14) "java/lang/String" "value" "[B") (.int (Int32.ofNat j))) (.int ((z_sbyt.getD 14 []).getD j 0))) := by decide +kernel
theorem zu_el15 : ∀ j, j < z_slen.getD 15 0 → z_FLT[367 + 4 + j]? = some (Cond.eq (.elem (.field (z_tm 15) "java/lang/String" "value" "[B") (.int (Int32.ofNat j))) (.int ((z_sbyt.getD 15 []).getD j 0))) := by decide +kernel
theorem zu_el16 : ∀ j, j < z_slen.getD 16 0 → z_FLT[399 + 4 + j]? = some (Cond.eq (.elem (.field (z_tm 16) "java/lang/String" "value" "[B") (.int (Int32.ofNat j))) (.int ((z_sbyt.getD 16 []).getD j 0))) := by decide +kernel
theorem zu_el17 : ∀ j, j < z_slen.getD 17 0 → z_FLT[435 + 4 + j]? = some (Cond.eq (.elem (.field (z_tm 17) "java/lang/String" "value" "[B") (.int (Int32.ofNat j))) (.int ((z_sbyt.getD 17 []).getD j 0))) := by decide +kernel
theorem zu_el18 : ∀ j, j < z_slen.getD 18 0 → z_FLT[483 + 4 + j]? = some (Cond.eq (.elem (.field (z_tm 18) "java/lang/String" "value" "[B") (.int (Int32.ofNat j))) (.int ((z_sbyt.getD 18 []).getD j 0))) := by decide +kernel
theorem zu_el19 : ∀ j, j < z_slen.getD 19 0 → z_FLT[536 + 4 + j]? = some (Cond.eq (.elem (.field (z_tm 19) "java/lang/String" "value" "[B") (.int (Int32.ofNat j))) (.int ((z_sbyt.getD 19 []).getD j 0))) := by decide +kernel
theorem zu_el20 : ∀ j, j < z_slen.getD 20 0 → z_FLT[572 + 4 + j]? = some (Cond.eq (.elem (.field (z_tm 20) "java/lang/String" "value" "[B") (.int (Int32.ofNat j))) (.int ((z_sbyt.getD 20 []).getD j 0))) := by decide +kernel
theorem zu_el21 : ∀ j, j < z_slen.getD 21 0 → z_FLT[613 + 4 + j]? = some (Cond.eq (.elem (.field (z_tm 21) "java/lang/String" "value" "[B") (.int (Int32.ofNat j))) (.int ((z_sbyt.getD 21 []).getD j 0))) := by decide +kernel
theorem zu_el22 : ∀ j, j < z_slen.getD 22 0 → z_FLT[650 + 4 + j]? = some (Cond.eq (.elem (.field (z_tm 22) "java/lang/String" "value" "[B") (.int (Int32.ofNat j))) (.int ((z_sbyt.getD 22 []).getD j 0))) := by decide +kernel
theorem zu_el23 : ∀ j, j < z_slen.getD 23 0 → z_FLT[690 + 4 + j]? = some (Cond.eq (.elem (.field (z_tm 23) "java/lang/String" "value" "[B") (.int (Int32.ofNat j))) (.int ((z_sbyt.getD 23 []).getD j 0))) := by decide +kernel
theorem zu_el24 : ∀ j, j < z_slen.getD 24 0 → z_FLT[735 + 4 + j]? = some (Cond.eq (.elem (.field (z_tm 24) "java/lang/String" "value" "[B") (.int (Int32.ofNat j))) (.int ((z_sbyt.getD 24 []).getD j 0))) := by decide +kernel
theorem zu_ne1 : ∀ j, j < 1 → z_FLT[101 + 4 + z_slen.getD 1 0 + j]? = some (Cond.not (Cond.eq (z_tm j) (z_tm 1))) := by decide +kernel
theorem zu_ne2 : ∀ j, j < 2 → z_FLT[113 + 4 + z_slen.getD 2 0 + j]? = some (Cond.not (Cond.eq (z_tm j) (z_tm 2))) := by decide +kernel
theorem zu_ne3 : ∀ j, j < 3 → z_FLT[124 + 4 + z_slen.getD 3 0 + j]? = some (Cond.not (Cond.eq (z_tm j) (z_tm 3))) := by decide +kernel
theorem zu_ne4 : ∀ j, j < 4 → z_FLT[135 + 4 + z_slen.getD 4 0 + j]? = some (Cond.not (Cond.eq (z_tm j) (z_tm 4))) := by decide +kernel
theorem zu_ne5 : ∀ j, j < 5 → z_FLT[147 + 4 + z_slen.getD 5 0 + j]? = some (Cond.not (Cond.eq (z_tm j) (z_tm 5))) := by decide +kernel
theorem zu_ne6 : ∀ j, j < 6 → z_FLT[163 + 4 + z_slen.getD 6 0 + j]? = some (Cond.not (Cond.eq (z_tm j) (z_tm 6))) := by decide +kernel
theorem zu_ne7 : ∀ j, j < 7 → z_FLT[178 + 4 + z_slen.getD 7 0 + j]? = some (Cond.not (Cond.eq (z_tm j) (z_tm 7))) := by decide +kernel
theorem zu_ne8 : ∀ j, j < 8 → z_FLT[193 + 4 + z_slen.getD 8 0 + j]? = some (Cond.not (Cond.eq (z_tm j) (z_tm 8))) := by decide +kernel
theorem zu_ne9 : ∀ j, j < 9 → z_FLT[212 + 4 + z_slen.getD 9 0 + j]? = some (Cond.not (Cond.eq (z_tm j) (z_tm 9))) := by decide +kernel
theorem zu_ne10 : ∀ j, j < 10 → z_FLT[230 + 4 + z_slen.getD 10 0 + j]? = some (Cond.not (Cond.eq (z_tm j) (z_tm 10))) := by decide +kernel
theorem zu_ne11 : ∀ j, j < 11 → z_FLT[249 + 4 + z_slen.getD 11 0 + j]? = some (Cond.not (Cond.eq (z_tm j) (z_tm 11))) := by decide +kernel
theorem zu_ne12 : ∀ j, j < 12 → z_FLT[268 + 4 + z_slen.getD 12 0 + j]? = some (Cond.not (Cond.eq (z_tm j) (z_tm 12))) := by decide +kernel
theorem zu_ne13 : ∀ j, j < 13 → z_FLT[304 + 4 + z_slen.getD 13 0 + j]? = some (Cond.not (Cond.eq (z_tm j) (z_tm 13))) := by decide +kernel
theorem zu_ne14 : ∀ j, j < 14 → z_FLT[336 + 4 + z_slen.getD 14 0 + j]? = some (Cond.not (Cond.eq (z_tm j) (z_tm 14))) := by decide +kernel
theorem zu_ne15 : ∀ j, j < 15 → z_FLT[367 + 4 + z_slen.getD 15 0 + j]? = some (Cond.not (Cond.eq (z_tm j) (z_tm 15))) := by decide +kernel
theorem zu_ne16 : ∀ j, j < 16 → z_FLT[399 + 4 + z_slen.getD 16 0 + j]? = some (Cond.not (Cond.eq (z_tm j) (z_tm 16))) := by decide +kernel
theorem zu_ne17 : ∀ j, j < 17 → z_FLT[435 + 4 + z_slen.getD 17 0 + j]? = some (Cond.not (Cond.eq (z_tm j) (z_tm 17))) := by decide +kernel
theorem zu_ne18 : ∀ j, j < 18 → z_FLT[483 + 4 + z_slen.getD 18 0 + j]? = some (Cond.not (Cond.eq (z_tm j) (z_tm 18))) := by decide +kernel
theorem zu_ne19 : ∀ j, j < 19 → z_FLT[536 + 4 + z_slen.getD 19 0 + j]? = some (Cond.not (Cond.eq (z_tm j) (z_tm 19))) := by decide +kernel
theorem zu_ne20 : ∀ j, j < 20 → z_FLT[572 + 4 + z_slen.getD 20 0 + j]? = some (Cond.not (Cond.eq (z_tm j) (z_tm 20))) := by decide +kernel
theorem zu_ne21 : ∀ j, j < 21 → z_FLT[613 + 4 + z_slen.getD 21 0 + j]? = some (Cond.not (Cond.eq (z_tm j) (z_tm 21))) := by decide +kernel
theorem zu_ne22 : ∀ j, j < 22 → z_FLT[650 + 4 + z_slen.getD 22 0 + j]? = some (Cond.not (Cond.eq (z_tm j) (z_tm 22))) := by decide +kernel
theorem zu_ne23 : ∀ j, j < 23 → z_FLT[690 + 4 + z_slen.getD 23 0 + j]? = some (Cond.not (Cond.eq (z_tm j) (z_tm 23))) := by decide +kernel
theorem zu_ne24 : ∀ j, j < 24 → z_FLT[735 + 4 + z_slen.getD 24 0 + j]? = some (Cond.not (Cond.eq (z_tm j) (z_tm 24))) := by decide +kernel
theorem zt_ex : ∀ i, i < 25 → Cond.exactly (z_tm i) "java/lang/String" ∈ z_FLT := fun i h => List.mem_of_getElem? (zu_ex i h)
theorem zt_co : ∀ i, i < 25 → Cond.eq (.field (z_tm i) "java/lang/String" "coder" "B") (.int 0) ∈ z_FLT := fun i h => List.mem_of_getElem? (zu_co i h)
theorem zt_ar : ∀ i, i < 25 → Cond.arrayOf (.field (z_tm i) "java/lang/String" "value" "[B") .byte ∈ z_FLT := fun i h => List.mem_of_getElem? (zu_ar i h)
theorem zt_le : ∀ i, i < 25 → Cond.eq (.length (.field (z_tm i) "java/lang/String" "value" "[B")) (.int (Int32.ofNat (z_slen.getD i 0))) ∈ z_FLT := fun i h => List.mem_of_getElem? (zu_le i h)
theorem zt_el : ∀ i, i < 25 → ∀ j, j < z_slen.getD i 0 → Cond.eq (.elem (.field (z_tm i) "java/lang/String" "value" "[B") (.int (Int32.ofNat j))) (.int ((z_sbyt.getD i []).getD j 0)) ∈ z_FLT := fun i hi => match i, hi with
  | 0, _ => fun j h => List.mem_of_getElem? (zu_el0 j h)
  | 1, _ => fun j h => List.mem_of_getElem? (zu_el1 j h)
  | 2, _ => fun j h => List.mem_of_getElem? (zu_el2 j h)
  | 3, _ => fun j h => List.mem_of_getElem? (zu_el3 j h)
  | 4, _ => fun j h => List.mem_of_getElem? (zu_el4 j h)
  | 5, _ => fun j h => List.mem_of_getElem? (zu_el5 j h)
  | 6, _ => fun j h => List.mem_of_getElem? (zu_el6 j h)
  | 7, _ => fun j h => List.mem_of_getElem? (zu_el7 j h)
  | 8, _ => fun j h => List.mem_of_getElem? (zu_el8 j h)
  | 9, _ => fun j h => List.mem_of_getElem? (zu_el9 j h)
  | 10, _ => fun j h => List.mem_of_getElem? (zu_el10 j h)
  | 11, _ => fun j h => List.mem_of_getElem? (zu_el11 j h)
  | 12, _ => fun j h => List.mem_of_getElem? (zu_el12 j h)
  | 13, _ => fun j h => List.mem_of_getElem? (zu_el13 j h)
  | 14, _ => fun j h => List.mem_of_getElem? (zu_el14 j h)
  | 15, _ => fun j h => List.mem_of_getElem? (zu_el15 j h)
  | 16, _ => fun j h => List.mem_of_getElem? (zu_el16 j h)
  | 17, _ => fun j h => List.mem_of_getElem? (zu_el17 j h)
  | 18, _ => fun j h => List.mem_of_getElem? (zu_el18 j h)
  | 19, _ => fun j h => List.mem_of_getElem? (zu_el19 j h)
  | 20, _ => fun j h => List.mem_of_getElem? (zu_el20 j h)
  | 21, _ => fun j h => List.mem_of_getElem? (zu_el21 j h)
  | 22, _ => fun j h => List.mem_of_getElem? (zu_el22 j h)
  | 23, _ => fun j h => List.mem_of_getElem? (zu_el23 j h)
  | 24, _ => fun j h => List.mem_of_getElem? (zu_el24 j h)
  | n + 25, h => absurd h (by omega)
theorem zt_ne2 : ∀ i, i < 25 → ∀ j, j < i → Cond.not (Cond.eq (z_tm j) (z_tm i)) ∈ z_FLT := fun i hi => match i, hi with
  | 0, _ => fun j h => absurd h (Nat.not_lt_zero j)
  | 1, _ => fun j h => List.mem_of_getElem? (zu_ne1 j h)
  | 2, _ => fun j h => List.mem_of_getElem? (zu_ne2 j h)
  | 3, _ => fun j h => List.mem_of_getElem? (zu_ne3 j h)
  | 4, _ => fun j h => List.mem_of_getElem? (zu_ne4 j h)
  | 5, _ => fun j h => List.mem_of_getElem? (zu_ne5 j h)
  | 6, _ => fun j h => List.mem_of_getElem? (zu_ne6 j h)
  | 7, _ => fun j h => List.mem_of_getElem? (zu_ne7 j h)
  | 8, _ => fun j h => List.mem_of_getElem? (zu_ne8 j h)
  | 9, _ => fun j h => List.mem_of_getElem? (zu_ne9 j h)
  | 10, _ => fun j h => List.mem_of_getElem? (zu_ne10 j h)
  | 11, _ => fun j h => List.mem_of_getElem? (zu_ne11 j h)
  | 12, _ => fun j h => List.mem_of_getElem? (zu_ne12 j h)
  | 13, _ => fun j h => List.mem_of_getElem? (zu_ne13 j h)
  | 14, _ => fun j h => List.mem_of_getElem? (zu_ne14 j h)
  | 15, _ => fun j h => List.mem_of_getElem? (zu_ne15 j h)
  | 16, _ => fun j h => List.mem_of_getElem? (zu_ne16 j h)
  | 17, _ => fun j h => List.mem_of_getElem? (zu_ne17 j h)
  | 18, _ => fun j h => List.mem_of_getElem? (zu_ne18 j h)
  | 19, _ => fun j h => List.mem_of_getElem? (zu_ne19 j h)
  | 20, _ => fun j h => List.mem_of_getElem? (zu_ne20 j h)
  | 21, _ => fun j h => List.mem_of_getElem? (zu_ne21 j h)
  | 22, _ => fun j h => List.mem_of_getElem? (zu_ne22 j h)
  | 23, _ => fun j h => List.mem_of_getElem? (zu_ne23 j h)
  | 24, _ => fun j h => List.mem_of_getElem? (zu_ne24 j h)
  | n + 25, h => absurd h (by omega)
theorem zt_ne : ∀ i, i < 25 → ∀ j, j < 25 → i ≠ j → Cond.not (Cond.eq (z_tm i) (z_tm j)) ∈ z_FLT ∨ Cond.not (Cond.eq (z_tm j) (z_tm i)) ∈ z_FLT := fun i hi j hj hne => by
  rcases Nat.lt_or_ge i j with h | h
  · exact Or.inl (zt_ne2 j hj i h)
  · exact Or.inr (zt_ne2 i hi j (by omega))
theorem zu_nc01 : z_FLT[33]? = some (Cond.not (Cond.castable "java/lang/IllegalArgumentException" "java/lang/IndexOutOfBoundsException")) := by decide +kernel
theorem zu_nc02 : z_FLT[45]? = some (Cond.not (Cond.castable "java/lang/IllegalArgumentException" "java/lang/IllegalStateException")) := by decide +kernel
theorem zu_nc10 : z_FLT[21]? = some (Cond.not (Cond.castable "java/lang/IndexOutOfBoundsException" "java/lang/IllegalArgumentException")) := by decide +kernel
theorem zu_nc12 : z_FLT[46]? = some (Cond.not (Cond.castable "java/lang/IndexOutOfBoundsException" "java/lang/IllegalStateException")) := by decide +kernel
theorem zu_nc20 : z_FLT[22]? = some (Cond.not (Cond.castable "java/lang/IllegalStateException" "java/lang/IllegalArgumentException")) := by decide +kernel
theorem zu_nc21 : z_FLT[34]? = some (Cond.not (Cond.castable "java/lang/IllegalStateException" "java/lang/IndexOutOfBoundsException")) := by decide +kernel
theorem zt_nc : ∀ E ∈ z_exc, ∀ E' ∈ z_exc, E ≠ E' → Cond.not (Cond.castable E E') ∈ z_FLT := by
  intro E hE E' hE' hne
  simp only [z_exc, List.mem_cons, List.not_mem_nil, or_false] at hE hE'
  rcases hE with rfl | rfl | rfl <;> rcases hE' with rfl | rfl | rfl
  · exact absurd rfl hne
  · exact List.mem_of_getElem? zu_nc01
  · exact List.mem_of_getElem? zu_nc02
  · exact List.mem_of_getElem? zu_nc10
  · exact absurd rfl hne
  · exact List.mem_of_getElem? zu_nc12
  · exact List.mem_of_getElem? zu_nc20
  · exact List.mem_of_getElem? zu_nc21
  · exact absurd rfl hne
theorem zt_st : Cond.eq (.static "java/lang/String" "COMPACT_STRINGS" "Z") (.int 1) ∈ z_FLT := List.mem_of_getElem? (i := 6) (by decide +kernel)
theorem zt_r1 : Cond.isRef (.static Bundle.tN "UNASSIGNED_STACK" Bundle.steD) ∈ z_FLT := List.mem_of_getElem? (i := 4) (by decide +kernel)
theorem zt_r2 : Cond.isRef (.static Bundle.tN "SUPPRESSED_SENTINEL" Bundle.listD) ∈ z_FLT := List.mem_of_getElem? (i := 5) (by decide +kernel)
theorem zt_r3 : Cond.isRef (.static "jdk/internal/util/Preconditions" "SIOOBE_FORMATTER" "Ljava/util/function/BiFunction;") ∈ z_FLT := List.mem_of_getElem? (i := 7) (by decide +kernel)
theorem zt_w1 : Cond.laysStatic Bundle.tN "UNASSIGNED_STACK" Bundle.steD ∈ lw_tbl ∧ Cond.initialized Bundle.tN ∈ lw_tbl ∧ Cond.laysStatic Bundle.tN "SUPPRESSED_SENTINEL" Bundle.listD ∈ lw_tbl := by decide +kernel
theorem zt_w2 : Cond.laysStatic "java/lang/String" "COMPACT_STRINGS" "Z" ∈ lw_tbl ∧ Cond.initialized "java/lang/String" ∈ lw_tbl ∧ Cond.laysStatic "jdk/internal/util/Preconditions" "SIOOBE_FORMATTER" "Ljava/util/function/BiFunction;" ∈ lw_tbl ∧ Cond.initialized "jdk/internal/util/Preconditions" ∈ lw_tbl := by decide +kernel
theorem zt_w3 : Cond.arrayOver (.object RX5) ∈ lw_tbl ∧ Cond.arrayOver (.object RX7) ∈ lw_tbl ∧ (∀ q ∈ z_nest, Cond.methodLinkNest q.1 q.2.1 q.2.2 "BikeShare" ∈ lw_tbl) ∧ (∀ E ∈ z_exc, Cond.castable E E ∈ lw_tbl) ∧ (∀ E ∈ z_dcls, Cond.declares (Bundle.initS E) ∈ lw_tbl) := by decide +kernel
theorem zt_w4 : Cond.arrayClass .byte ∈ lw_tbl ∧ Cond.arrayClass .int ∈ lw_tbl ∧ Cond.arrayClass .boolean ∈ lw_tbl ∧ Cond.arrayClass .long ∈ lw_tbl := by decide +kernel
theorem zt_ks : ∀ q ∈ z_ks, Cond.stringRef q.1 q.2.1 q.2.2 ∈ lw_tbl := by decide +kernel
theorem zt_in : Cond.instantiable RX0 18 ∈ lw_tbl ∧ Cond.instantiable RX1 14 ∈ lw_tbl ∧ Cond.instantiable RX2 3 ∈ lw_tbl ∧ Cond.instantiable RX3 3 ∈ lw_tbl ∧ Cond.instantiable RX4 2 ∈ lw_tbl ∧ Cond.instantiable RX5 13 ∈ lw_tbl ∧ Cond.instantiable RX6 12 ∈ lw_tbl ∧ Cond.instantiable RX7 8 ∈ lw_tbl ∧ Cond.instantiable RX8 11 ∈ lw_tbl ∧ Cond.instantiable RX9 34 ∈ lw_tbl := by decide +kernel
