/-! OneCall$Knowledge -/
def zKn (h : zH) (a : Nat) : Prop := (h.2.1 a).1 = 1 ∧ h.2.1 (a + 1) = (10, 10) ∧ h.2.1 (a + 2) = (11, 10) ∧ h.2.2 a 0 = some (a + 1) ∧ h.2.2 a 1 = some (a + 2)
def kI (I : zI) (a : Nat) (f : Nat → Nat) (rk : Nat) : Prop := (∀ p, p < 10 → I (a + 1) p = nI (f p)) ∧ I a 2 = nI rk
def kJ (J : zJ) (a : Nat) (b : Nat → Nat) : Prop := ∀ p, p < 10 → J (a + 2) p = lN (b p)
theorem m_restOf (d : Nat) (h : zH) (I : zI) (J : zJ) (a : Nat) (hk : zKn h a) (f : Nat → Nat) (hf : ∀ p, p < 10 → I (a + 1) p = nI (f p)) (m : Nat) (hm : m < 1024) : z_C yX0_restOf cX0_restOf 4 (some .int) (d + 1) [.ref a, .int (nI m)] h I J 0 0 (z_q (some (.int (nI (l_in f m)))) h I J) := by
  refine z_C.of (by decide) (Nat.le_of_ble_eq_true rfl) fun K E X => ?_
  refine v_iconst (v := nI 0) E dX0_restOf_0 (by decide) ?_
  refine v_istore_n E dX0_restOf_1 (by decide) ?_
  refine v_iconst (v := nI 0) E dX0_restOf_2 (by decide) ?_
  refine v_istore_n E dX0_restOf_3 (by decide) ?_
  have loop : ∀ k, k ≤ 10 → z_V K 4 [(0, .ref a), (1, .int (nI m)), (2, .int (nI (l_to f m k))), (3, .int (nI k))] [] h I J 0 0 := by
    refine z_for 10 ?_ (fun k hk1 ih => ?_)
    · refine v_iload_n E dX0_restOf_4 rfl ?_
      refine v_bipush (v := nI 10) E dX0_restOf_5 (by decide) ?_
      refine v_icmp_geN (tgt := 33) E dX0_restOf_7 (by decide) (by omega) (by omega) (fun c => ?_) (fun c => ?_)
      · refine v_iload_n E dX0_restOf_33 rfl ?_
        exact v_iret E X dX0_restOf_34 z_qq
      · exact absurd c (by omega)
    · refine v_iload_n E dX0_restOf_4 rfl ?_
      refine v_bipush (v := nI 10) E dX0_restOf_5 (by decide) ?_
      refine v_icmp_geN (tgt := 33) E dX0_restOf_7 (by decide) (by omega) (by omega) (fun c => ?_) (fun c => ?_)
      · exact absurd c (by omega)
      · refine v_iload_n E dX0_restOf_10 rfl ?_
        refine v_iload_n E dX0_restOf_11 rfl ?_
        refine v_callN1 E dX0_restOf_12 k_nK Y_X3_isIn (m_isIn d h I J k m (by omega) (by omega)) rfl rfl (Nat.le_of_ble_eq_true rfl) ?_
        have e : l_to f m (k + 1) = if m.testBit k then l_to f m k ^^^ f k else l_to f m k := rfl
        refine v_if_eqB (tgt := 27) E dX0_restOf_15 (by decide)  (fun c2 => ?_) (fun c2 => ?_)
        · rw [c2] at e
          refine v_inc E dX0_restOf_27 rfl (by decide) ?_
          refine v_goto (tgt := 4) E dX0_restOf_30 (by decide) ?_
          rw [e] at ih
          exact ih
        · rw [c2] at e
          refine v_iload_n E dX0_restOf_18 rfl ?_
          refine v_aload_n E dX0_restOf_19 rfl ?_
          refine v_getR E f_X0_9 dX0_restOf_20 hk.1 rfl hk.2.2.2.1 ?_
          refine v_iload_n E dX0_restOf_23 rfl ?_
          refine v_ialoadE E dX0_restOf_24 hk.2.1 rfl hk1 (by decide) (hf k hk1) ?_
          refine v_ixorN E dX0_restOf_25 ?_
          refine v_istore_n E dX0_restOf_26 (by decide) ?_
          refine v_inc E dX0_restOf_27 rfl (by decide) ?_
          refine v_goto (tgt := 4) E dX0_restOf_30 (by decide) ?_
          rw [e] at ih
          exact ih
  exact loop 0 (by omega)
theorem m_rowsOf (d : Nat) (h : zH) (I : zI) (J : zJ) (a : Nat) (hk : zKn h a) (b : Nat → Nat) (hb : kJ J a b) (m : Nat) (hm : m < 1024) : z_C yX0_rowsOf cX0_rowsOf 5 (some .long) (d + 1) [.ref a, .int (nI m)] h I J 0 0 (z_q (some (.long (lN (l_in b m)))) h I J) := by
  refine z_C.of (by decide) (Nat.le_of_ble_eq_true rfl) fun K E X => ?_
  refine v_lconst (v := lN 0) E dX0_rowsOf_0 (by decide) ?_
  refine v_lstore_n E dX0_rowsOf_1 (by decide) ?_
  refine v_iconst (v := nI 0) E dX0_rowsOf_2 (by decide) ?_
  refine v_istore E dX0_rowsOf_3 (by decide) ?_
  have loop : ∀ k, k ≤ 10 → z_V K 5 [(0, .ref a), (1, .int (nI m)), (2, .long (lN (l_to b m k))), (4, .int (nI k))] [] h I J 0 0 := by
    refine z_for 10 ?_ (fun k hk1 ih => ?_)
    · refine v_iload E dX0_rowsOf_5 rfl ?_
      refine v_bipush (v := nI 10) E dX0_rowsOf_7 (by decide) ?_
      refine v_icmp_geN (tgt := 37) E dX0_rowsOf_9 (by decide) (by omega) (by omega) (fun c => ?_) (fun c => ?_)
      · refine v_lload_n E dX0_rowsOf_37 rfl ?_
        exact v_lret E X dX0_rowsOf_38 z_qq
      · exact absurd c (by omega)
    · refine v_iload E dX0_rowsOf_5 rfl ?_
      refine v_bipush (v := nI 10) E dX0_rowsOf_7 (by decide) ?_
      refine v_icmp_geN (tgt := 37) E dX0_rowsOf_9 (by decide) (by omega) (by omega) (fun c => ?_) (fun c => ?_)
      · exact absurd c (by omega)
      · refine v_iload E dX0_rowsOf_12 rfl ?_
        refine v_iload_n E dX0_rowsOf_14 rfl ?_
        refine v_callN1 E dX0_rowsOf_15 k_nK Y_X3_isIn (m_isIn d h I J k m (by omega) (by omega)) rfl rfl (Nat.le_of_ble_eq_true rfl) ?_
        have e : l_to b m (k + 1) = if m.testBit k then l_to b m k ^^^ b k else l_to b m k := rfl
        refine v_if_eqB (tgt := 31) E dX0_rowsOf_18 (by decide)  (fun c2 => ?_) (fun c2 => ?_)
        · rw [c2] at e
          refine v_inc E dX0_rowsOf_31 rfl (by decide) ?_
          refine v_goto (tgt := 5) E dX0_rowsOf_34 (by decide) ?_
          rw [e] at ih
          exact ih
        · rw [c2] at e
          refine v_lload_n E dX0_rowsOf_21 rfl ?_
          refine v_aload_n E dX0_rowsOf_22 rfl ?_
          refine v_getR E f_X0_15 dX0_rowsOf_23 hk.1 rfl hk.2.2.2.2 ?_
          refine v_iload E dX0_rowsOf_26 rfl ?_
          refine v_laloadE E dX0_rowsOf_28 hk.2.2.1 rfl hk1 (by decide) (hb k hk1) ?_
          refine v_lxorN E dX0_rowsOf_29 ?_
          refine v_lstore_n E dX0_rowsOf_30 (by decide) ?_
          refine v_inc E dX0_rowsOf_31 rfl (by decide) ?_
          refine v_goto (tgt := 5) E dX0_rowsOf_34 (by decide) ?_
          rw [e] at ih
          exact ih
  exact loop 0 (by omega)
