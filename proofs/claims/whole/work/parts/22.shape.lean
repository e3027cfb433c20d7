/-! THE SHAPE of the law's heap: OneCall from place 1 on, OneCallModel from 17 on, then the listeners as they come; the list's row lies at 42 -/
def z_pl (l : Nat) : Nat := if l = 0 then 37 else 38 + 5 * l
def z_t0 (a : Nat) : Nat × Nat := match a with
  | 1 => (4, 0)
  | 2 => (11, 10)
  | 3 => (0, 0)
  | 4 => (10, 40)
  | 5 => (10, 40)
  | 6 => (10, 40)
  | 7 => (3, 0)
  | 8 => (10, 100)
  | 9 => (10, 100)
  | 10 => (10, 100)
  | 11 => (10, 10)
  | 12 => (10, 1024)
  | 13 => (1, 0)
  | 14 => (10, 10)
  | 15 => (11, 10)
  | 16 => (10, 5)
  | 17 => (5, 0)
  | 18 => (11, 10)
  | 19 => (10, 10)
  | 20 => (10, 10)
  | 21 => (10, 10)
  | 22 => (10, 120)
  | 23 => (12, 10)
  | 24 => (10, 40)
  | 25 => (10, 40)
  | 26 => (10, 56)
  | 27 => (12, 56)
  | 28 => (12, 10240)
  | 29 => (12, 1024)
  | 30 => (10, 10)
  | 31 => (10, 100)
  | 32 => (10, 100)
  | 33 => (10, 1024)
  | 34 => (12, 1024)
  | 35 => (10, 60)
  | 36 => (10, 6)
  | _ => (99, 0)
def z_r0 (nl a : Nat) : Nat → Option Nat := match a with
  | 1 => fun k => match k with
    | 0 => some 2
    | 2 => some 3
    | 3 => some 4
    | 4 => some 5
    | 5 => some 6
    | 7 => some 7
    | 8 => some 13
    | 9 => some 16
    | _ => none
  | 3 => fun k => match k with
    | 1 => if nl = 0 then some 0 else some 42
    | _ => none
  | 7 => fun k => match k with
    | 0 => some 8
    | 1 => some 9
    | 3 => some 10
    | 4 => some 11
    | 5 => some 12
    | _ => none
  | 13 => fun k => match k with
    | 0 => some 14
    | 1 => some 15
    | _ => none
  | 17 => fun k => match k with
    | 3 => some 18
    | 4 => some 19
    | 5 => some 20
    | 6 => some 21
    | 7 => some 22
    | 8 => some 23
    | 9 => some 24
    | 10 => some 25
    | 11 => some 26
    | 12 => some 27
    | 15 => some 28
    | 16 => some 29
    | 17 => some 30
    | 18 => some 31
    | 19 => some 32
    | 21 => some 33
    | 22 => some 34
    | 23 => some 35
    | 24 => some 36
    | _ => none
  | _ => fun _ => none
/-- kind and references of cell j of a listener whose first place is a - j -/
def z_lt (j : Nat) : Nat × Nat := match j with
  | 0 => (2, 0)
  | 1 => (10, 52)
  | 2 => (1, 0)
  | 3 => (10, 10)
  | _ => (11, 10)
def z_lr (j a : Nat) : Nat → Option Nat := match j with
  | 0 => fun k => match k with
    | 1 => some (a + 1)
    | 2 => some (a + 2)
    | _ => none
  | 2 => fun k => match k with
    | 0 => some (a + 1)
    | 1 => some (a + 2)
    | _ => none
  | _ => fun _ => none
/-- the listener's number and cell of a place from 37 on -/
def z_ln (a : Nat) : Nat := if a < 42 then 0 else (a - 38) / 5
def z_lj (a : Nat) : Nat := if a < 42 then a - 37 else (a - 38) % 5
def z_n (nl : Nat) : Nat := if nl = 0 then 36 else 37 + 5 * nl
def z_sT (nl a : Nat) : Nat × Nat := if a < 37 then z_t0 a else if a = 42 then (if nl = 0 then (99, 0) else (13, 10)) else if z_ln a < nl then z_lt (z_lj a) else (99, 0)
def z_sR (nl a : Nat) : Nat → Option Nat := if a < 37 then z_r0 nl a else if a = 42 then (if nl = 0 then fun _ => none else fun k => if k < nl then some (z_pl k) else none) else if z_ln a < nl then z_lr (z_lj a) a else fun _ => none
def z_s (nl : Nat) : zH := (z_n nl, z_sT nl, z_sR nl)
theorem z_pl_j (l : Nat) {j : Nat} (hj : j < 5) : ¬ z_pl l + j < 37 ∧ z_pl l + j ≠ 42 ∧ z_ln (z_pl l + j) = l ∧ z_lj (z_pl l + j) = j := by
  unfold z_pl z_ln z_lj
  by_cases h : l = 0
  · subst h
    simp only [if_true]
    refine ⟨by omega, by omega, by rw [if_pos (by omega)], by rw [if_pos (by omega)]; omega⟩
  · simp only [if_neg h]
    refine ⟨by omega, by omega, by rw [if_neg (by omega)]; omega, by rw [if_neg (by omega)]; omega⟩
theorem z_sT_l {nl l j : Nat} (hl : l < nl) (hj : j < 5) : z_sT nl (z_pl l + j) = z_lt j := by
  obtain ⟨h1, h2, h3, h4⟩ := z_pl_j l hj
  unfold z_sT
  rw [if_neg h1, if_neg h2, h3, if_pos hl, h4]
theorem z_sR_l {nl l j : Nat} (hl : l < nl) (hj : j < 5) : z_sR nl (z_pl l + j) = z_lr j (z_pl l + j) := by
  obtain ⟨h1, h2, h3, h4⟩ := z_pl_j l hj
  unfold z_sR
  rw [if_neg h1, if_neg h2, h3, if_pos hl, h4]
theorem z_ls {nl l : Nat} (hl : l < nl) : zLs (z_s nl) (z_pl l) := by
  refine ⟨?_, ?_, ⟨?_, ?_, ?_, ?_, ?_⟩, ?_, ?_⟩
  · exact congrArg Prod.fst (z_sT_l (j := 0) hl (by decide))
  · exact z_sT_l (j := 1) hl (by decide)
  · exact congrArg Prod.fst (z_sT_l (j := 2) hl (by decide))
  · exact z_sT_l (j := 3) hl (by decide)
  · exact z_sT_l (j := 4) hl (by decide)
  · exact congrFun (z_sR_l (j := 2) hl (by decide)) 0
  · exact congrFun (z_sR_l (j := 2) hl (by decide)) 1
  · exact congrFun (z_sR_l (j := 0) hl (by decide)) 1
  · exact congrFun (z_sR_l (j := 0) hl (by decide)) 2
theorem z_s13 (nl : Nat) : zKn (z_s nl) 13 := ⟨rfl, rfl, rfl, rfl, rfl⟩
theorem z_pl_ne {l l' : Nat} (h : l ≠ l') : z_pl l + 4 < z_pl l' ∨ z_pl l' + 4 < z_pl l := by
  unfold z_pl
  by_cases h1 : l = 0 <;> by_cases h2 : l' = 0
  · omega
  · rw [if_pos h1, if_neg h2]; omega
  · rw [if_neg h1, if_pos h2]; omega
  · rw [if_neg h1, if_neg h2]; omega
theorem z_pl_37 (l : Nat) : 37 ≤ z_pl l := by
  unfold z_pl
  split <;> omega
/-! the list -/
theorem m_size (d : Nat) (nl : Nat) (I : zI) (J : zJ) (hn : I 3 2 = nI nl) : z_C yJx4a65c_size_8abf5 cJx4a65c_size_8abf5 1 (some .int) d [.ref 3] (z_s nl) I J 0 0 (z_q (some (.int (nI nl))) (z_s nl) I J) := by
  refine z_C.of (by decide) (Nat.le_of_ble_eq_true rfl) fun K E X => ?_
  refine v_aload_n E dJx4a65c_size_8abf5_0 rfl ?_
  refine v_getIE E f_Jx4a65c_48 dJx4a65c_size_8abf5_1 rfl rfl hn ?_
  exact v_iret E X dJx4a65c_size_8abf5_4 z_qq
theorem m_check3 (d : Nat) (h : zH) (I : zI) (J : zJ) (l n : Nat) (hl : l < n) (hn : n < 2 ^ 31) : z_C yJ3_checkIndex_8e157 cJ3_checkIndex_8e157 3 (some .int) d [.int (nI l), .int (nI n), .null] h I J 0 0 (z_q (some (.int (nI l))) h I J) := by
  refine z_C.of (by decide) (Nat.le_of_ble_eq_true rfl) fun K E X => ?_
  refine v_iload_n E dJ3_checkIndex_8e157_0 rfl ?_
  refine v_if_lt (tgt := 9) E dJ3_checkIndex_8e157_1 (by decide)  (fun c => ?_) (fun c => ?_)
  · exact absurd c (nI_pos (by omega))
  · refine v_iload_n E dJ3_checkIndex_8e157_4 rfl ?_
    refine v_iload_n E dJ3_checkIndex_8e157_5 rfl ?_
    refine v_icmp_ltN (tgt := 16) E dJ3_checkIndex_8e157_6 (by decide) (by omega) (by omega) (fun c1 => ?_) (fun c1 => ?_)
    · refine v_iload_n E dJ3_checkIndex_8e157_16 rfl ?_
      exact v_iret E X dJ3_checkIndex_8e157_17 z_qq
    · exact absurd c1 (by omega)
theorem m_check (d : Nat) (h : zH) (I : zI) (J : zJ) (l n : Nat) (hl : l < n) (hn : n < 2 ^ 31) : z_C yJ15_checkIndex_7cf53 cJ15_checkIndex_7cf53 2 (some .int) (d + 1) [.int (nI l), .int (nI n)] h I J 0 0 (z_q (some (.int (nI l))) h I J) := by
  refine z_C.of (by decide) (Nat.le_of_ble_eq_true rfl) fun K E X => ?_
  refine v_iload_n E dJ15_checkIndex_7cf53_0 rfl ?_
  refine v_iload_n E dJ15_checkIndex_7cf53_1 rfl ?_
  refine v_null E dJ15_checkIndex_7cf53_2 ?_
  refine v_callS1 E dJ15_checkIndex_7cf53_3 k_J15_105 Y_J3_checkIndex_8e157 (m_check3 d h I J l n hl hn) rfl rfl (Nat.le_of_ble_eq_true rfl) ?_
  exact v_iret E X dJ15_checkIndex_7cf53_6 z_qq
theorem z_42 {nl l : Nat} (hl : l < nl) : z_sT nl 42 = (13, 10) ∧ z_sR nl 42 l = some (z_pl l) ∧ z_sR nl 3 1 = some 42 := by
  have h0 : nl ≠ 0 := by omega
  refine ⟨?_, ?_, ?_⟩
  · show (if nl = 0 then ((99, 0) : Nat × Nat) else (13, 10)) = _
    rw [if_neg h0]
  · show (if nl = 0 then (fun _ => none) else fun k => if k < nl then some (z_pl k) else none : Nat → Option Nat) l = _
    rw [if_neg h0]
    show (if l < nl then some (z_pl l) else none) = _
    rw [if_pos hl]
  · show (if nl = 0 then some 0 else some 42) = _
    rw [if_neg h0]
theorem m_elementData (d : Nat) (nl : Nat) (I : zI) (J : zJ) (l : Nat) (hl : l < nl) (h10 : nl ≤ 10) : z_C yJx4a65c_elementData_915e3 cJx4a65c_elementData_915e3 2 (some (.object "java/lang/Object")) d [.ref 3, .int (nI l)] (z_s nl) I J 0 0 (z_q (some (.ref (z_pl l))) (z_s nl) I J) := by
  obtain ⟨e1, e2, e3⟩ := z_42 hl
  refine z_C.of (by decide) (Nat.le_of_ble_eq_true rfl) fun K E X => ?_
  refine v_aload_n E dJx4a65c_elementData_915e3_0 rfl ?_
  refine v_getR E f_Jx4a65c_9 dJx4a65c_elementData_915e3_1 rfl rfl e3 ?_
  refine v_iload_n E dJx4a65c_elementData_915e3_4 rfl ?_
  refine v_aaload E dJx4a65c_elementData_915e3_5 e1 rfl (by omega) (by decide) e2 ?_
  exact v_aret E (by first | exact Or.inl ⟨_, rfl⟩ | exact Or.inr ⟨_, rfl⟩) X dJx4a65c_elementData_915e3_6 z_qq
theorem m_get (d : Nat) (nl : Nat) (I : zI) (J : zJ) (hn : I 3 2 = nI nl) (l : Nat) (hl : l < nl) (h10 : nl ≤ 10) : z_C yJx4a65c_get_915e3 cJx4a65c_get_915e3 2 (some (.object "java/lang/Object")) (d + 2) [.ref 3, .int (nI l)] (z_s nl) I J 0 0 (z_q (some (.ref (z_pl l))) (z_s nl) I J) := by
  refine z_C.of (by decide) (Nat.le_of_ble_eq_true rfl) fun K E X => ?_
  refine v_iload_n E dJx4a65c_get_915e3_0 rfl ?_
  refine v_aload_n E dJx4a65c_get_915e3_1 rfl ?_
  refine v_getIE E f_Jx4a65c_48 dJx4a65c_get_915e3_2 rfl rfl hn ?_
  refine v_callS1 E dJx4a65c_get_915e3_5 k_Jx4a65c_118 Y_J15_checkIndex_7cf53 (m_check d (z_s nl) I J l nl hl (by omega)) rfl rfl (Nat.le_of_ble_eq_true rfl) ?_
  refine v_pop E dJx4a65c_get_915e3_8 rfl ?_
  refine v_aload_n E dJx4a65c_get_915e3_9 rfl ?_
  refine v_iload_n E dJx4a65c_get_915e3_10 rfl ?_
  refine v_callV1 E dJx4a65c_get_915e3_11 k_Jx4a65c_123 Y_Jx4a65c_elementData_915e3 (m_elementData (d + 1) nl I J l hl h10) rfl rfl rfl (Nat.le_of_ble_eq_true rfl) ?_
  exact v_aret E (by first | exact Or.inl ⟨_, rfl⟩ | exact Or.inr ⟨_, rfl⟩) X dJx4a65c_get_915e3_14 z_qq
