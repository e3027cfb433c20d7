/-! OneCall: the reads -/
theorem m_bytes (d : Nat) (s : zS) (hw : s_wf s) (I : zI) (J : zJ) (hc : cI s I J) (x : Int32) : z_C yX3_bytes cX3_bytes 2 (some .long) (d + 1) [.ref 1, .int x] (z_s (s_nl s)) I J 0 0 (z_q (some (.long (r_bytes s x))) (z_s (s_nl s)) I J) := by
  obtain ⟨c1, c2, c3, c4, c5, c6, c7, c8⟩ := hc
  have w1 := hw.1
  refine z_C.of (by decide) (Nat.le_of_ble_eq_true rfl) fun K E X => ?_
  refine v_aload_n E dX3_bytes_0 rfl ?_
  refine v_iload_n E dX3_bytes_1 rfl ?_
  refine v_callV1 E dX3_bytes_2 k_X3_54 Y_X3_isPiece (m_isPiece d (s_nl s) (s_np s) I J c1 x) rfl rfl rfl (Nat.le_of_ble_eq_true rfl) ?_
  refine v_if_eqB (tgt := 17) E dX3_bytes_5 (by decide)  (fun e1 => ?_) (fun e1 => ?_)
  · refine v_lconst (v := lN 0) E dX3_bytes_17 (by decide) ?_
    exact v_lret E X dX3_bytes_18 (z_ql (by unfold r_bytes; rw [e1]; rfl))
  · have e2 := e1
    obtain ⟨p, hp, rfl⟩ := z_isx_true (by omega) e1
    refine v_aload_n E dX3_bytes_8 rfl ?_
    refine v_getR E f_X3_9 dX3_bytes_9 rfl rfl rfl ?_
    refine v_iload_n E dX3_bytes_12 rfl ?_
    refine v_laloadE E dX3_bytes_13 rfl rfl (by omega) (by decide) (c4 p hp) ?_
    refine v_goto (tgt := 18) E dX3_bytes_14 (by decide) ?_
    exact v_lret E X dX3_bytes_18 (z_ql (by unfold r_bytes; rw [e2, nI_clamp (by omega)]; rfl))
theorem m_call (d : Nat) (s : zS) (hw : s_wf s) (I : zI) (J : zJ) (hc : cI s I J) (x y : Int32) : z_C yX3_call cX3_call 3 (some .int) (d + 1) [.ref 1, .int x, .int y] (z_s (s_nl s)) I J 0 0 (z_q (some (.int (r_call2 s x y))) (z_s (s_nl s)) I J) := by
  obtain ⟨c1, c2, c3, c4, c5, c6, c7, c8⟩ := hc
  have w3 := hw.2.2.1
  refine z_C.of (by decide) (Nat.le_of_ble_eq_true rfl) fun K E X => ?_
  refine v_aload_n E dX3_call_0 rfl ?_
  refine v_iload_n E dX3_call_1 rfl ?_
  refine v_callV1 E dX3_call_2 k_X3_112 Y_X3_isCall (m_isCall d (s_nl s) (s_nc s) I J c2 x) rfl rfl rfl (Nat.le_of_ble_eq_true rfl) ?_
  refine v_if_neB (tgt := 10) E dX3_call_5 (by decide)  (fun e1 => ?_) (fun e1 => ?_)
  · have e3 := e1
    obtain ⟨c, hc1, rfl⟩ := z_isx_true (by omega) e1
    refine v_iload_n E dX3_call_10 rfl ?_
    have e4 : r_call2 s (nI c) y = if z_isx y 3 then r_callN s c y.toNatClampNeg else -1 := by
      unfold r_call2
      rw [e3, nI_clamp (by omega)]
      rfl
    cases e2 : z_isx y 3 with
    | false =>
      refine v_tableOut (tgt := 57) E dX3_call_11 (by have := z_out (by decide) e2; omega) (by decide) ?_
      refine v_iconst (v := -1) E dX3_call_57 (by decide) ?_
      exact v_iret E X dX3_call_58 (z_qi (by rw [e4, e2]; rfl))
    | true =>
      have e5 := e2
      obtain ⟨w, hw1, rfl⟩ := z_isx_true (by decide) e2
      rcases (show w = 0 ∨ w = 1 ∨ w = 2 by omega) with rfl | rfl | rfl
      · refine v_tableIn (off := 25) (tgt := 36) E dX3_call_11 (by decide) (by decide) (by decide) (by decide) ?_
        refine v_aload_n E dX3_call_36 rfl ?_
        refine v_getR E f_X3_20 dX3_call_37 rfl rfl rfl ?_
        refine v_iload_n E dX3_call_40 rfl ?_
        refine v_ialoadE E dX3_call_41 rfl rfl (by omega) (by decide) (c5 c hc1) ?_
        exact v_iret E X dX3_call_42 (z_qi (by rw [e4, e5]; rfl))
      · refine v_tableIn (off := 32) (tgt := 43) E dX3_call_11 (by decide) (by decide) (by decide) (by decide) ?_
        refine v_aload_n E dX3_call_43 rfl ?_
        refine v_getR E f_X3_24 dX3_call_44 rfl rfl rfl ?_
        refine v_iload_n E dX3_call_47 rfl ?_
        refine v_ialoadE E dX3_call_48 rfl rfl (by omega) (by decide) (c6 c (by omega)) ?_
        exact v_iret E X dX3_call_49 (z_qi (by rw [e4, e5, if_pos hc1]; rfl))
      · refine v_tableIn (off := 39) (tgt := 50) E dX3_call_11 (by decide) (by decide) (by decide) (by decide) ?_
        refine v_aload_n E dX3_call_50 rfl ?_
        refine v_getR E f_X3_27 dX3_call_51 rfl rfl rfl ?_
        refine v_iload_n E dX3_call_54 rfl ?_
        refine v_ialoadE E dX3_call_55 rfl rfl (by omega) (by decide) (c7 c (by omega)) ?_
        exact v_iret E X dX3_call_56 (z_qi (by rw [e4, e5, if_pos hc1]; rfl))
  · refine v_iconst (v := -1) E dX3_call_8 (by decide) ?_
    exact v_iret E X dX3_call_9 (z_qi (by unfold r_call2; rw [e1]; rfl))
theorem m_sum (d : Nat) (s : zS) (hw : s_wf s) (I : zI) (J : zJ) (hc : cI s I J) (x : Int32) : z_C yX3_sum cX3_sum 2 (some .long) (d + 2) [.ref 1, .int x] (z_s (s_nl s)) I J 0 0 (z_q (some (.long (r_sum s x))) (z_s (s_nl s)) I J) := by
  obtain ⟨c1, c2, c3, c4, c5, c6, c7, c8⟩ := hc
  have w1 := hw.1
  have w3 := hw.2.2.1
  have w8 := hw.2.2.2.2.2.2.2.1
  refine z_C.of (by decide) (Nat.le_of_ble_eq_true rfl) fun K E X => ?_
  refine v_aload_n E dX3_sum_0 rfl ?_
  refine v_iload_n E dX3_sum_1 rfl ?_
  refine v_callV1 E dX3_sum_2 k_X3_112 Y_X3_isCall (m_isCall (d + 1) (s_nl s) (s_nc s) I J c2 x) rfl rfl rfl (Nat.le_of_ble_eq_true rfl) ?_
  refine v_if_eqB (tgt := 21) E dX3_sum_5 (by decide)  (fun e1 => ?_) (fun e1 => ?_)
  · refine v_lconst (v := lN 0) E dX3_sum_21 (by decide) ?_
    exact v_lret E X dX3_sum_22 (z_ql (by unfold r_sum; rw [e1]; rfl))
  · have e2 := e1
    obtain ⟨c, hc1, rfl⟩ := z_isx_true (by omega) e1
    refine v_aload_n E dX3_sum_8 rfl ?_
    refine v_aload_n E dX3_sum_9 rfl ?_
    refine v_getR E f_X3_20 dX3_sum_10 rfl rfl rfl ?_
    refine v_iload_n E dX3_sum_13 rfl ?_
    refine v_ialoadE E dX3_sum_14 rfl rfl (by omega) (by decide) (c5 c hc1) ?_
    refine v_callV1 E dX3_sum_15 k_X3_115 Y_X3_bytesOf (m_bytesOf d (s_nl s) (s_np s) I J c1 w1 (s_pv s) c4 (s_cm s c) (p2_10 w1 (w8 c hc1).2.1)) rfl rfl rfl (Nat.le_of_ble_eq_true rfl) ?_
    refine v_goto (tgt := 22) E dX3_sum_18 (by decide) ?_
    exact v_lret E X dX3_sum_22 (z_ql (by unfold r_sum; rw [e2, nI_clamp (by omega)]; rfl))
theorem m_heard (d : Nat) (s : zS) (hw : s_wf s) (I : zI) (J : zJ) (hc : cI s I J) (x y : Int32) : z_C yX3_heard cX3_heard 3 (some .int) (d + 3) [.ref 1, .int x, .int y] (z_s (s_nl s)) I J 0 0 (z_q (some (.int (r_heard s x y))) (z_s (s_nl s)) I J) := by
  obtain ⟨c1, c2, c3, c4, c5, c6, c7, c8⟩ := hc
  have w2 := hw.2.1
  have w3 := hw.2.2.1
  refine z_C.of (by decide) (Nat.le_of_ble_eq_true rfl) fun K E X => ?_
  have no : (z_isx x (s_nl s) && z_isx y (s_nc s)) = false → z_V K 16 [(0, .ref 1), (1, .int x), (2, .int y)] [] (z_s (s_nl s)) I J 0 0 := by
    intro e
    refine v_iconst (v := -1) E dX3_heard_16 (by decide) ?_
    exact v_iret E X dX3_heard_17 (z_qi (by unfold r_heard; rw [e]; rfl))
  refine v_aload_n E dX3_heard_0 rfl ?_
  refine v_iload_n E dX3_heard_1 rfl ?_
  refine v_callV1 E dX3_heard_2 k_X3_71 Y_X3_isListener (m_isListener (d + 1) (s_nl s) I J c3 x) rfl rfl rfl (Nat.le_of_ble_eq_true rfl) ?_
  refine v_if_eqB (tgt := 16) E dX3_heard_5 (by decide)  (fun e1 => ?_) (fun e1 => ?_)
  · exact no (by rw [e1]; rfl)
  · refine v_aload_n E dX3_heard_8 rfl ?_
    refine v_iload_n E dX3_heard_9 rfl ?_
    refine v_callV1 E dX3_heard_10 k_X3_112 Y_X3_isCall (m_isCall (d + 2) (s_nl s) (s_nc s) I J c2 y) rfl rfl rfl (Nat.le_of_ble_eq_true rfl) ?_
    refine v_if_neB (tgt := 18) E dX3_heard_13 (by decide)  (fun e2 => ?_) (fun e2 => ?_)
    · have f1 := e1
      have f2 := e2
      obtain ⟨l, hl, rfl⟩ := z_isx_true (by omega) e1
      obtain ⟨c, hc1, rfl⟩ := z_isx_true (by omega) e2
      have hL := c8 l hl
      have hlt : s_hc s l < 2 ^ 62 := Nat.lt_of_lt_of_le (q_hc_lt (s_hb s) l (s_nc s)) (Nat.pow_le_pow_right (by decide) (by omega))
      refine v_aload_n E dX3_heard_18 rfl ?_
      refine v_getR E f_X3_16 dX3_heard_19 rfl rfl rfl ?_
      refine v_iload_n E dX3_heard_22 rfl ?_
      refine v_callV1 E dX3_heard_23 k_X3_74 Y_Jx4a65c_get_915e3 (m_get d (s_nl s) I J c3 l hl w2) rfl rfl rfl (Nat.le_of_ble_eq_true rfl) ?_
      refine v_checkcast E dX3_heard_26 c_X3_62 (by decide) (v_cc hl) ?_
      refine v_getJE E f_X3_119 dX3_heard_29 (v_cc hl) rfl hL.2.2.2.2.2.1 ?_
      refine v_iload_n E dX3_heard_32 rfl ?_
      refine v_lshrN E dX3_heard_33 hlt (by omega) ?_
      refine v_lconst (v := lN 1) E dX3_heard_34 (by decide) ?_
      refine v_landN E dX3_heard_35 ?_
      refine v_l2i E dX3_heard_36 ?_
      refine v_iret E X dX3_heard_37 (z_qi ?_)
      unfold r_heard
      rw [f1, f2, nI_clamp (by omega), nI_clamp (by omega), q_a1, q_tbn, lN_i]
      show nI ((q_hc (s_hb s) l (s_nc s)).testBit c).toNat = _
      rw [q_hc_bit, decide_eq_true hc1]
      rfl
    · exact no (by rw [e1, e2]; rfl)
theorem m_rowOf (d : Nat) (s : zS) (hw : s_wf s) (I : zI) (J : zJ) (hc : cI s I J) (x y : Int32) : z_C yX3_rowOf cX3_rowOf 4 (some .int) (d + 3) [.ref 1, .int x, .int y] (z_s (s_nl s)) I J 0 0 (z_q (some (.int (r_rowOf s x y))) (z_s (s_nl s)) I J) := by
  obtain ⟨c1, c2, c3, c4, c5, c6, c7, c8⟩ := hc
  have w2 := hw.2.1
  refine z_C.of (by decide) (Nat.le_of_ble_eq_true rfl) fun K E X => ?_
  refine v_aload_n E dX3_rowOf_0 rfl ?_
  refine v_iload_n E dX3_rowOf_1 rfl ?_
  refine v_callV1 E dX3_rowOf_2 k_X3_71 Y_X3_isListener (m_isListener (d + 1) (s_nl s) I J c3 x) rfl rfl rfl (Nat.le_of_ble_eq_true rfl) ?_
  refine v_if_neB (tgt := 10) E dX3_rowOf_5 (by decide)  (fun e1 => ?_) (fun e1 => ?_)
  · have f1 := e1
    obtain ⟨l, hl, rfl⟩ := z_isx_true (by omega) e1
    obtain ⟨i0, i3, i4, i5, i6, i7, i8, ir, ik, ij⟩ := c8 l hl
    obtain ⟨b0, b1, b2, b3, b4, b5⟩ := s_lsB hw l
    have hr : r_rowOf s (nI l) y = if z_isx y (s_rows s l).length then nI (l_row (s_rows s l) y.toNatClampNeg) else -1 := by
      unfold r_rowOf
      rw [f1, nI_clamp (by omega)]
      rfl
    have no : z_isx y (s_rows s l).length = false → z_V K 43 [(0, .ref 1), (1, .int (nI l)), (2, .int y), (3, .ref (z_pl l))] [] (z_s (s_nl s)) I J 0 0 := by
      intro e
      refine v_iconst (v := -1) E dX3_rowOf_43 (by decide) ?_
      exact v_iret E X dX3_rowOf_44 (z_qi (by rw [hr, e]; rfl))
    refine v_aload_n E dX3_rowOf_10 rfl ?_
    refine v_getR E f_X3_16 dX3_rowOf_11 rfl rfl rfl ?_
    refine v_iload_n E dX3_rowOf_14 rfl ?_
    refine v_callV1 E dX3_rowOf_15 k_X3_74 Y_Jx4a65c_get_915e3 (m_get d (s_nl s) I J c3 l hl w2) rfl rfl rfl (Nat.le_of_ble_eq_true rfl) ?_
    refine v_checkcast E dX3_rowOf_18 c_X3_62 (by decide) (v_cc hl) ?_
    refine v_astore_n E dX3_rowOf_21 (by decide) ?_
    refine v_iload_n E dX3_rowOf_22 rfl ?_
    refine v_if_lt (tgt := 43) E dX3_rowOf_23 (by decide)  (fun c => ?_) (fun c => ?_)
    · exact no (decide_eq_false (fun z => z.1 c))
    · refine v_iload_n E dX3_rowOf_26 rfl ?_
      refine v_aload_n E dX3_rowOf_27 rfl ?_
      refine v_getIE E f_X3_123 dX3_rowOf_28 (v_cc hl) rfl i3 ?_
      refine v_icmp_ge (tgt := 43) E dX3_rowOf_31 (by decide)  (fun c9 => ?_) (fun c9 => ?_)
      · exact no (decide_eq_false (fun z => absurd z.2 (Int32.not_lt.mpr c9)))
      · have e2 : z_isx y (s_rows s l).length = true := decide_eq_true ⟨c, Int32.not_le.mp c9⟩
        have f2 := e2
        obtain ⟨k, hk, rfl⟩ := z_isx_true (by omega) e2
        refine v_aload_n E dX3_rowOf_34 rfl ?_
        refine v_getR E f_X3_136 dX3_rowOf_35 (v_cc hl) rfl (z_ls hl).2.2.2.1 ?_
        refine v_iload_n E dX3_rowOf_38 rfl ?_
        refine v_ialoadE E dX3_rowOf_39 (z_ls hl).2.1 rfl (by omega) (by decide) (ir k hk) ?_
        refine v_goto (tgt := 44) E dX3_rowOf_40 (by decide) ?_
        exact v_iret E X dX3_rowOf_44 (z_qi (by rw [hr, f2, nI_clamp (by omega)]; rfl))
  · refine v_iconst (v := -1) E dX3_rowOf_8 (by decide) ?_
    exact v_iret E X dX3_rowOf_9 (z_qi (by unfold r_rowOf; rw [e1]; rfl))
theorem m_solve (d : Nat) (s : zS) (hw : s_wf s) (I : zI) (J : zJ) (hc : cI s I J) (x y : Int32) : z_C yX3_solve cX3_solve 3 (some .int) (d + 4) [.ref 1, .int x, .int y] (z_s (s_nl s)) I J 0 0 (z_q (some (.int (r_solve s x y))) (z_s (s_nl s)) I J) := by
  have c1 := hc.1
  have c3 := hc.2.2.1
  refine z_C.of (by decide) (Nat.le_of_ble_eq_true rfl) fun K E X => ?_
  have no : (z_isx x (s_nl s) && z_isx y (s_np s)) = false → z_V K 16 [(0, .ref 1), (1, .int x), (2, .int y)] [] (z_s (s_nl s)) I J 0 0 := by
    intro e
    refine v_iconst (v := -1) E dX3_solve_16 (by decide) ?_
    exact v_iret E X dX3_solve_17 (z_qi (by unfold r_solve; rw [e]; rfl))
  refine v_aload_n E dX3_solve_0 rfl ?_
  refine v_iload_n E dX3_solve_1 rfl ?_
  refine v_callV1 E dX3_solve_2 k_X3_71 Y_X3_isListener (m_isListener (d + 2) (s_nl s) I J c3 x) rfl rfl rfl (Nat.le_of_ble_eq_true rfl) ?_
  refine v_if_eqB (tgt := 16) E dX3_solve_5 (by decide)  (fun e1 => ?_) (fun e1 => ?_)
  · exact no (by rw [e1]; rfl)
  · refine v_aload_n E dX3_solve_8 rfl ?_
    refine v_iload_n E dX3_solve_9 rfl ?_
    refine v_callV1 E dX3_solve_10 k_X3_54 Y_X3_isPiece (m_isPiece (d + 3) (s_nl s) (s_np s) I J c1 y) rfl rfl rfl (Nat.le_of_ble_eq_true rfl) ?_
    refine v_if_neB (tgt := 18) E dX3_solve_13 (by decide)  (fun e2 => ?_) (fun e2 => ?_)
    · refine v_aload_n E dX3_solve_18 rfl ?_
      refine v_iload_n E dX3_solve_19 rfl ?_
      refine v_iload_n E dX3_solve_20 rfl ?_
      refine v_callV1 E dX3_solve_21 k_X3_139 Y_X3_hasWorkedOut (m_hasWorkedOut d s hw I J hc x y) rfl rfl rfl (Nat.le_of_ble_eq_true rfl) ?_
      refine v_callS1 E dX3_solve_24 k_X3_104 Y_X3_oneIf (m_oneIf (d + 3) (z_s (s_nl s)) I J (s_hwo s x y)) rfl rfl (Nat.le_of_ble_eq_true rfl) ?_
      exact v_iret E X dX3_solve_27 (z_qi (by unfold r_solve s_hwo; rw [e1, e2]; rfl))
    · exact no (by rw [e1, e2]; rfl)
/-- what hasWorkedOut says when it says yes -/
theorem s_hwo_true {s : zS} (hw : s_wf s) {x y : Int32} (h : s_hwo s x y = true) : ∃ l p, l < s_nl s ∧ p < s_np s ∧ x = nI l ∧ y = nI p ∧ s_out s l p = true := by
  have w1 := hw.1
  have w2 := hw.2.1
  unfold s_hwo at h
  simp only [Bool.and_eq_true] at h
  obtain ⟨h1, h2, h3⟩ := h
  obtain ⟨l, hl, rfl⟩ := z_isx_true (by omega) h1
  obtain ⟨p, hp, rfl⟩ := z_isx_true (by omega) h2
  rw [nI_clamp (by omega), nI_clamp (by omega)] at h3
  exact ⟨l, p, hl, hp, rfl, rfl, h3⟩
theorem m_why (d : Nat) (s : zS) (hw : s_wf s) (I : zI) (J : zJ) (hc : cI s I J) (x y : Int32) : z_C yX3_why cX3_why 3 (some .long) (d + 4) [.ref 1, .int x, .int y] (z_s (s_nl s)) I J 0 0 (z_q (some (.long (r_why s x y))) (z_s (s_nl s)) I J) := by
  have w1 := hw.1
  have w2 := hw.2.1
  have c3 := hc.2.2.1
  have c8 := hc.2.2.2.2.2.2.2
  refine z_C.of (by decide) (Nat.le_of_ble_eq_true rfl) fun K E X => ?_
  refine v_aload_n E dX3_why_0 rfl ?_
  refine v_iload_n E dX3_why_1 rfl ?_
  refine v_iload_n E dX3_why_2 rfl ?_
  refine v_callV1 E dX3_why_3 k_X3_139 Y_X3_hasWorkedOut (m_hasWorkedOut d s hw I J hc x y) rfl rfl rfl (Nat.le_of_ble_eq_true rfl) ?_
  refine v_if_eqB (tgt := 31) E dX3_why_6 (by decide)  (fun e => ?_) (fun e => ?_)
  · refine v_ldc2_w E dX3_why_31 n_X3_145 ?_
    exact v_lret E X dX3_why_34 (z_ql (by unfold r_why; rw [e]; rfl))
  · have e2 := e
    obtain ⟨l, p, hl, hp, rfl, rfl, ho⟩ := s_hwo_true hw e
    refine v_aload_n E dX3_why_9 rfl ?_
    refine v_getR E f_X3_16 dX3_why_10 rfl rfl rfl ?_
    refine v_iload_n E dX3_why_13 rfl ?_
    refine v_callV1 E dX3_why_14 k_X3_74 Y_Jx4a65c_get_915e3 (m_get (d + 1) (s_nl s) I J c3 l hl w2) rfl rfl rfl (Nat.le_of_ble_eq_true rfl) ?_
    refine v_checkcast E dX3_why_17 c_X3_62 (by decide) (v_cc hl) ?_
    refine v_getR E f_X3_126 dX3_why_20 (v_cc hl) rfl (z_ls hl).2.2.2.2 ?_
    refine v_getR E f_X3_142 dX3_why_23 (z_ls hl).2.2.1.1 rfl (z_ls hl).2.2.1.2.2.2.2 ?_
    refine v_iload_n E dX3_why_26 rfl ?_
    refine v_laloadE E dX3_why_27 (z_ls hl).2.2.1.2.2.1 rfl (by omega) (by decide) ((c8 l hl).2.2.2.2.2.2.2.2.2 p (by omega)) ?_
    refine v_goto (tgt := 34) E dX3_why_28 (by decide) ?_
    exact v_lret E X dX3_why_34 (z_ql (by unfold r_why; rw [e2, nI_clamp (by omega), nI_clamp (by omega)]; rfl))
theorem m_left (d : Nat) (s : zS) (hw : s_wf s) (I : zI) (J : zJ) (hc : cI s I J) : z_C yX3_left cX3_left 1 (some .int) (d + 5) [.ref 1] (z_s (s_nl s)) I J 0 0 (z_q (some (.int (r_left s))) (z_s (s_nl s)) I J) := by
  have c3 := hc.2.2.1
  have hle := l_cnt_le (s_sv s) (s_nl s)
  refine z_C.of (by decide) (Nat.le_of_ble_eq_true rfl) fun K E X => ?_
  refine v_aload_n E dX3_left_0 rfl ?_
  refine v_getR E f_X3_16 dX3_left_1 rfl rfl rfl ?_
  refine v_callV1 E dX3_left_4 k_X3_58 Y_Jx4a65c_size_8abf5 (m_size (d + 4) (s_nl s) I J c3) rfl rfl rfl (Nat.le_of_ble_eq_true rfl) ?_
  refine v_aload_n E dX3_left_7 rfl ?_
  refine v_callV1 E dX3_left_8 k_X3_153 Y_X3_servedCount (m_servedCount d s hw I J hc) rfl rfl rfl (Nat.le_of_ble_eq_true rfl) ?_
  refine v_isubN E dX3_left_11 (by omega) ?_
  exact v_iret E X dX3_left_12 z_qq
theorem m_count (d : Nat) (s : zS) (hw : s_wf s) (I : zI) (J : zJ) (hc : cI s I J) (x : Int32) : z_C yX3_count cX3_count 2 (some .int) (d + 5) [.ref 1, .int x] (z_s (s_nl s)) I J 0 0 (z_q (some (.int (r_count s x))) (z_s (s_nl s)) I J) := by
  have c1 := hc.1
  have c2 := hc.2.1
  have c3 := hc.2.2.1
  refine z_C.of (by decide) (Nat.le_of_ble_eq_true rfl) fun K E X => ?_
  refine v_iload_n E dX3_count_0 rfl ?_
  cases e2 : z_isx x 5 with
  | false =>
    refine v_tableOut (tgt := 64) E dX3_count_1 (by have := z_out (by decide) e2; omega) (by decide) ?_
    refine v_iconst (v := -1) E dX3_count_64 (by decide) ?_
    exact v_iret E X dX3_count_65 (z_qi (by unfold r_count; rw [e2]; rfl))
  | true =>
    have e5 := e2
    obtain ⟨w, hw1, rfl⟩ := z_isx_true (by decide) e2
    rcases (show w = 0 ∨ w = 1 ∨ w = 2 ∨ w = 3 ∨ w = 4 by omega) with rfl | rfl | rfl | rfl | rfl
    · refine v_tableIn (off := 35) (tgt := 36) E dX3_count_1 (by decide) (by decide) (by decide) (by decide) ?_
      refine v_aload_n E dX3_count_36 rfl ?_
      refine v_getIE E f_X3_51 dX3_count_37 rfl rfl c1 ?_
      exact v_iret E X dX3_count_40 (z_qi (by unfold r_count; rw [e5]; rfl))
    · refine v_tableIn (off := 40) (tgt := 41) E dX3_count_1 (by decide) (by decide) (by decide) (by decide) ?_
      refine v_aload_n E dX3_count_41 rfl ?_
      refine v_getR E f_X3_16 dX3_count_42 rfl rfl rfl ?_
      refine v_callV1 E dX3_count_45 k_X3_58 Y_Jx4a65c_size_8abf5 (m_size (d + 4) (s_nl s) I J c3) rfl rfl rfl (Nat.le_of_ble_eq_true rfl) ?_
      exact v_iret E X dX3_count_48 (z_qi (by unfold r_count; rw [e5]; rfl))
    · refine v_tableIn (off := 48) (tgt := 49) E dX3_count_1 (by decide) (by decide) (by decide) (by decide) ?_
      refine v_aload_n E dX3_count_49 rfl ?_
      refine v_getIE E f_X3_47 dX3_count_50 rfl rfl c2 ?_
      exact v_iret E X dX3_count_53 (z_qi (by unfold r_count; rw [e5]; rfl))
    · refine v_tableIn (off := 53) (tgt := 54) E dX3_count_1 (by decide) (by decide) (by decide) (by decide) ?_
      refine v_aload_n E dX3_count_54 rfl ?_
      refine v_callV1 E dX3_count_55 k_X3_153 Y_X3_servedCount (m_servedCount d s hw I J hc) rfl rfl rfl (Nat.le_of_ble_eq_true rfl) ?_
      exact v_iret E X dX3_count_58 (z_qi (by unfold r_count; rw [e5]; rfl))
    · refine v_tableIn (off := 58) (tgt := 59) E dX3_count_1 (by decide) (by decide) (by decide) (by decide) ?_
      refine v_aload_n E dX3_count_59 rfl ?_
      refine v_callV1 E dX3_count_60 k_X3_195 Y_X3_rankOfAll (m_rankOfAll (d + 1) s hw I J hc) rfl rfl rfl (Nat.le_of_ble_eq_true rfl) ?_
      exact v_iret E X dX3_count_63 (z_qi (by unfold r_count; rw [e5]; rfl))
