/-! OneCall's own helpers -/
theorem v_cc {nl l : Nat} (hl : l < nl) : ((z_s nl).2.1 (z_pl l)).1 = 2 := (z_ls hl).1
theorem m_isPiece (d nl np : Nat) (I : zI) (J : zJ) (hn : I 1 1 = nI np) (x : Int32) : z_C yX3_isPiece cX3_isPiece 2 (some .boolean) d [.ref 1, .int x] (z_s nl) I J 0 0 (z_q (some (.int (nI (z_isx x np).toNat))) (z_s nl) I J) := by
  refine z_C.of (by decide) (Nat.le_of_ble_eq_true rfl) fun K E X => ?_
  have no : z_isx x np = false → z_V K 16 [(0, .ref 1), (1, .int x)] [] (z_s nl) I J 0 0 := by
    intro e
    refine v_iconst (v := nI 0) E dX3_isPiece_16 (by decide) ?_
    exact v_zret E X dX3_isPiece_17 (by first | exact Or.inl rfl | exact Or.inr rfl) (z_qi (by rw [e]; rfl))
  refine v_iload_n E dX3_isPiece_0 rfl ?_
  refine v_if_lt (tgt := 16) E dX3_isPiece_1 (by decide)  (fun c => ?_) (fun c => ?_)
  · exact no (decide_eq_false (fun z => z.1 c))
  · refine v_iload_n E dX3_isPiece_4 rfl ?_
    refine v_aload_n E dX3_isPiece_5 rfl ?_
    refine v_getIE E f_X3_51 dX3_isPiece_6 rfl rfl hn ?_
    refine v_icmp_ge (tgt := 16) E dX3_isPiece_9 (by decide)  (fun c1 => ?_) (fun c1 => ?_)
    · exact no (decide_eq_false (fun z => absurd z.2 (Int32.not_lt.mpr c1)))
    · refine v_iconst (v := nI 1) E dX3_isPiece_12 (by decide) ?_
      refine v_goto (tgt := 17) E dX3_isPiece_13 (by decide) ?_
      have e : z_isx x np = true := decide_eq_true ⟨c, Int32.not_le.mp c1⟩
      exact v_zret E X dX3_isPiece_17 (by first | exact Or.inl rfl | exact Or.inr rfl) (z_qi (by rw [e]; rfl))
theorem m_isCall (d nl nc : Nat) (I : zI) (J : zJ) (hn : I 1 6 = nI nc) (x : Int32) : z_C yX3_isCall cX3_isCall 2 (some .boolean) d [.ref 1, .int x] (z_s nl) I J 0 0 (z_q (some (.int (nI (z_isx x nc).toNat))) (z_s nl) I J) := by
  refine z_C.of (by decide) (Nat.le_of_ble_eq_true rfl) fun K E X => ?_
  have no : z_isx x nc = false → z_V K 16 [(0, .ref 1), (1, .int x)] [] (z_s nl) I J 0 0 := by
    intro e
    refine v_iconst (v := nI 0) E dX3_isCall_16 (by decide) ?_
    exact v_zret E X dX3_isCall_17 (by first | exact Or.inl rfl | exact Or.inr rfl) (z_qi (by rw [e]; rfl))
  refine v_iload_n E dX3_isCall_0 rfl ?_
  refine v_if_lt (tgt := 16) E dX3_isCall_1 (by decide)  (fun c => ?_) (fun c => ?_)
  · exact no (decide_eq_false (fun z => z.1 c))
  · refine v_iload_n E dX3_isCall_4 rfl ?_
    refine v_aload_n E dX3_isCall_5 rfl ?_
    refine v_getIE E f_X3_47 dX3_isCall_6 rfl rfl hn ?_
    refine v_icmp_ge (tgt := 16) E dX3_isCall_9 (by decide)  (fun c1 => ?_) (fun c1 => ?_)
    · exact no (decide_eq_false (fun z => absurd z.2 (Int32.not_lt.mpr c1)))
    · refine v_iconst (v := nI 1) E dX3_isCall_12 (by decide) ?_
      refine v_goto (tgt := 17) E dX3_isCall_13 (by decide) ?_
      have e : z_isx x nc = true := decide_eq_true ⟨c, Int32.not_le.mp c1⟩
      exact v_zret E X dX3_isCall_17 (by first | exact Or.inl rfl | exact Or.inr rfl) (z_qi (by rw [e]; rfl))
theorem m_isListener (d nl : Nat) (I : zI) (J : zJ) (hn : I 3 2 = nI nl) (x : Int32) : z_C yX3_isListener cX3_isListener 2 (some .boolean) (d + 1) [.ref 1, .int x] (z_s nl) I J 0 0 (z_q (some (.int (nI (z_isx x nl).toNat))) (z_s nl) I J) := by
  refine z_C.of (by decide) (Nat.le_of_ble_eq_true rfl) fun K E X => ?_
  have no : z_isx x nl = false → z_V K 19 [(0, .ref 1), (1, .int x)] [] (z_s nl) I J 0 0 := by
    intro e
    refine v_iconst (v := nI 0) E dX3_isListener_19 (by decide) ?_
    exact v_zret E X dX3_isListener_20 (by first | exact Or.inl rfl | exact Or.inr rfl) (z_qi (by rw [e]; rfl))
  refine v_iload_n E dX3_isListener_0 rfl ?_
  refine v_if_lt (tgt := 19) E dX3_isListener_1 (by decide)  (fun c => ?_) (fun c => ?_)
  · exact no (decide_eq_false (fun z => z.1 c))
  · refine v_iload_n E dX3_isListener_4 rfl ?_
    refine v_aload_n E dX3_isListener_5 rfl ?_
    refine v_getR E f_X3_16 dX3_isListener_6 rfl rfl rfl ?_
    refine v_callV1 E dX3_isListener_9 k_X3_58 Y_Jx4a65c_size_8abf5 (m_size d nl I J hn) rfl rfl rfl (Nat.le_of_ble_eq_true rfl) ?_
    refine v_icmp_ge (tgt := 19) E dX3_isListener_12 (by decide)  (fun c1 => ?_) (fun c1 => ?_)
    · exact no (decide_eq_false (fun z => absurd z.2 (Int32.not_lt.mpr c1)))
    · refine v_iconst (v := nI 1) E dX3_isListener_15 (by decide) ?_
      refine v_goto (tgt := 20) E dX3_isListener_16 (by decide) ?_
      have e : z_isx x nl = true := decide_eq_true ⟨c, Int32.not_le.mp c1⟩
      exact v_zret E X dX3_isListener_20 (by first | exact Or.inl rfl | exact Or.inr rfl) (z_qi (by rw [e]; rfl))
theorem m_allPieces (d nl np : Nat) (I : zI) (J : zJ) (hn : I 1 1 = nI np) (h10 : np ≤ 10) : z_C yX3_allPieces cX3_allPieces 1 (some .int) d [.ref 1] (z_s nl) I J 0 0 (z_q (some (.int (nI (2 ^ np - 1)))) (z_s nl) I J) := by
  have hp : 0 < 2 ^ np := Nat.two_pow_pos np
  refine z_C.of (by decide) (Nat.le_of_ble_eq_true rfl) fun K E X => ?_
  refine v_iconst (v := nI 1) E dX3_allPieces_0 (by decide) ?_
  refine v_aload_n E dX3_allPieces_1 rfl ?_
  refine v_getIE E f_X3_51 dX3_allPieces_2 rfl rfl hn ?_
  refine v_ishlN E dX3_allPieces_5 (by omega) ?_
  refine v_iconst (v := nI 1) E dX3_allPieces_6 (by decide) ?_
  refine v_isubN E dX3_allPieces_7 (by omega) ?_
  exact v_iret E X dX3_allPieces_8 (z_qi (by rw [Nat.one_mul]))
theorem m_isMask (d nl np : Nat) (I : zI) (J : zJ) (hn : I 1 1 = nI np) (h10 : np ≤ 10) (x : Int32) : z_C yX3_isMask cX3_isMask 2 (some .boolean) (d + 1) [.ref 1, .int x] (z_s nl) I J 0 0 (z_q (some (.int (nI (z_msk x np).toNat))) (z_s nl) I J) := by
  rw [z_msk_and h10]
  refine z_C.of (by decide) (Nat.le_of_ble_eq_true rfl) fun K E X => ?_
  have no : decide (¬ x = 0 ∧ x &&& (nI (2 ^ np - 1) ^^^ -1) = 0) = false → z_V K 19 [(0, .ref 1), (1, .int x)] [] (z_s nl) I J 0 0 := by
    intro e
    refine v_iconst (v := nI 0) E dX3_isMask_19 (by decide) ?_
    exact v_zret E X dX3_isMask_20 (by first | exact Or.inl rfl | exact Or.inr rfl) (z_qi (by rw [e]; rfl))
  refine v_iload_n E dX3_isMask_0 rfl ?_
  refine v_if_eq (tgt := 19) E dX3_isMask_1 (by decide)  (fun c => ?_) (fun c => ?_)
  · exact no (decide_eq_false (fun z => z.1 c))
  · refine v_iload_n E dX3_isMask_4 rfl ?_
    refine v_aload_n E dX3_isMask_5 rfl ?_
    refine v_callV1 E dX3_isMask_6 k_X3_147 Y_X3_allPieces (m_allPieces d nl np I J hn h10) rfl rfl rfl (Nat.le_of_ble_eq_true rfl) ?_
    refine v_iconst (v := -1) E dX3_isMask_9 (by decide) ?_
    refine v_ixor E dX3_isMask_10 ?_
    refine v_iand E dX3_isMask_11 ?_
    refine v_if_ne (tgt := 19) E dX3_isMask_12 (by decide)  (fun c1 => ?_) (fun c1 => ?_)
    · exact no (decide_eq_false (fun z => c1 z.2))
    · refine v_iconst (v := nI 1) E dX3_isMask_15 (by decide) ?_
      refine v_goto (tgt := 20) E dX3_isMask_16 (by decide) ?_
      have e : decide (¬ x = 0 ∧ x &&& (nI (2 ^ np - 1) ^^^ -1) = 0) = true := decide_eq_true ⟨c, c1⟩
      exact v_zret E X dX3_isMask_20 (by first | exact Or.inl rfl | exact Or.inr rfl) (z_qi (by rw [e]; rfl))
/-- the exclusive or of the bytes of a mask's pieces -/
def q_sum (pv : Nat → Int64) (m : Nat) : Nat → Int64
  | 0 => lN 0
  | k + 1 => if m.testBit k then q_sum pv m k ^^^ pv k else q_sum pv m k
theorem m_bytesOf (d nl np : Nat) (I : zI) (J : zJ) (hn : I 1 1 = nI np) (h10 : np ≤ 10) (pv : Nat → Int64) (hp : ∀ p, p < np → J 2 p = pv p) (m : Nat) (hm : m < 1024) : z_C yX3_bytesOf cX3_bytesOf 5 (some .long) (d + 1) [.ref 1, .int (nI m)] (z_s nl) I J 0 0 (z_q (some (.long (q_sum pv m np))) (z_s nl) I J) := by
  refine z_C.of (by decide) (Nat.le_of_ble_eq_true rfl) fun K E X => ?_
  refine v_lconst (v := lN 0) E dX3_bytesOf_0 (by decide) ?_
  refine v_lstore_n E dX3_bytesOf_1 (by decide) ?_
  refine v_iconst (v := nI 0) E dX3_bytesOf_2 (by decide) ?_
  refine v_istore E dX3_bytesOf_3 (by decide) ?_
  have loop : ∀ k, k ≤ np → z_V K 5 [(0, .ref 1), (1, .int (nI m)), (2, .long (q_sum pv m k)), (4, .int (nI k))] [] (z_s nl) I J 0 0 := by
    refine z_for np ?_ (fun k hk1 ih => ?_)
    · refine v_iload E dX3_bytesOf_5 rfl ?_
      refine v_aload_n E dX3_bytesOf_7 rfl ?_
      refine v_getIE E f_X3_51 dX3_bytesOf_8 rfl rfl hn ?_
      refine v_icmp_geN (tgt := 39) E dX3_bytesOf_11 (by decide) (by omega) (by omega) (fun c => ?_) (fun c => ?_)
      · refine v_lload_n E dX3_bytesOf_39 rfl ?_
        exact v_lret E X dX3_bytesOf_40 z_qq
      · exact absurd c (by omega)
    · refine v_iload E dX3_bytesOf_5 rfl ?_
      refine v_aload_n E dX3_bytesOf_7 rfl ?_
      refine v_getIE E f_X3_51 dX3_bytesOf_8 rfl rfl hn ?_
      refine v_icmp_geN (tgt := 39) E dX3_bytesOf_11 (by decide) (by omega) (by omega) (fun c => ?_) (fun c => ?_)
      · exact absurd c (by omega)
      · refine v_iload E dX3_bytesOf_14 rfl ?_
        refine v_iload_n E dX3_bytesOf_16 rfl ?_
        refine v_callS1 E dX3_bytesOf_17 k_X3_84 Y_X3_isIn (m_isIn d (z_s nl) I J k m (by omega) (by omega)) rfl rfl (Nat.le_of_ble_eq_true rfl) ?_
        have e : q_sum pv m (k + 1) = if m.testBit k then q_sum pv m k ^^^ pv k else q_sum pv m k := rfl
        refine v_if_eqB (tgt := 33) E dX3_bytesOf_20 (by decide)  (fun c2 => ?_) (fun c2 => ?_)
        · rw [c2] at e
          refine v_inc E dX3_bytesOf_33 rfl (by decide) ?_
          refine v_goto (tgt := 5) E dX3_bytesOf_36 (by decide) ?_
          rw [e] at ih
          exact ih
        · rw [c2] at e
          refine v_lload_n E dX3_bytesOf_23 rfl ?_
          refine v_aload_n E dX3_bytesOf_24 rfl ?_
          refine v_getR E f_X3_9 dX3_bytesOf_25 rfl rfl rfl ?_
          refine v_iload E dX3_bytesOf_28 rfl ?_
          refine v_laloadE E dX3_bytesOf_30 rfl rfl (by omega) (by decide) (hp k hk1) ?_
          refine v_lxor E dX3_bytesOf_31 ?_
          refine v_lstore_n E dX3_bytesOf_32 (by decide) ?_
          refine v_inc E dX3_bytesOf_33 rfl (by decide) ?_
          refine v_goto (tgt := 5) E dX3_bytesOf_36 (by decide) ?_
          rw [e] at ih
          exact ih
  exact loop 0 (by omega)
/-- worked out; the pieces worked out; served -/
def s_out (s : zS) (l p : Nat) : Bool := l_sp (s_rows s l) (2 ^ p)
def s_wo (s : zS) (l : Nat) : Nat := l_wo (l_f (s_rows s l)) 0 10
def s_sv (s : zS) (l : Nat) : Bool := l_sv (s_kd s l) (s_hp s l) (s_wt s l) (s_wo s l) (2 ^ s_np s - 1)
theorem s_out_f {s : zS} (hw : s_wf s) (l : Nat) {p : Nat} (hp : p < 10) : decide (l_f (s_rows s l) p = 0) = s_out s l p := by
  have h : l_f (s_rows s l) p = 0 ↔ l_sp (s_rows s l) (2 ^ p) = true := l_f_out (s_rows_1024 hw l (Nat.le_refl _)) hp
  unfold s_out
  cases hs : l_sp (s_rows s l) (2 ^ p) with
  | true => exact decide_eq_true (h.mpr hs)
  | false => exact decide_eq_false (fun z => by rw [h.mp z] at hs; cases hs)
theorem p2_lt {np : Nat} (h : np ≤ 10) : 2 ^ np - 1 < 1024 := by
  have : 2 ^ np ≤ 2 ^ 10 := Nat.pow_le_pow_right (by decide) h
  omega
/-- a listener and a piece that there are, and worked out -/
def s_hwo (s : zS) (xl xp : Int32) : Bool := z_isx xl (s_nl s) && (z_isx xp (s_np s) && s_out s xl.toNatClampNeg xp.toNatClampNeg)
theorem m_hasWorkedOut (d : Nat) (s : zS) (hw : s_wf s) (I : zI) (J : zJ) (hc : cI s I J) (xl xp : Int32) : z_C yX3_hasWorkedOut cX3_hasWorkedOut 3 (some .boolean) (d + 3) [.ref 1, .int xl, .int xp] (z_s (s_nl s)) I J 0 0 (z_q (some (.int (nI (s_hwo s xl xp).toNat))) (z_s (s_nl s)) I J) := by
  obtain ⟨c1, c2, c3, c4, c5, c6, c7, c8⟩ := hc
  have w1 := hw.1
  have w2 := hw.2.1
  refine z_C.of (by decide) (Nat.le_of_ble_eq_true rfl) fun K E X => ?_
  have no : s_hwo s xl xp = false → z_V K 41 [(0, .ref 1), (1, .int xl), (2, .int xp)] [] (z_s (s_nl s)) I J 0 0 := by
    intro e
    refine v_iconst (v := nI 0) E dX3_hasWorkedOut_41 (by decide) ?_
    exact v_zret E X dX3_hasWorkedOut_42 (by first | exact Or.inl rfl | exact Or.inr rfl) (z_qi (by rw [e]; rfl))
  refine v_aload_n E dX3_hasWorkedOut_0 rfl ?_
  refine v_iload_n E dX3_hasWorkedOut_1 rfl ?_
  refine v_callV1 E dX3_hasWorkedOut_2 k_X3_71 Y_X3_isListener (m_isListener (d + 1) (s_nl s) I J c3 xl) rfl rfl rfl (Nat.le_of_ble_eq_true rfl) ?_
  refine v_if_eqB (tgt := 41) E dX3_hasWorkedOut_5 (by decide)  (fun e1 => ?_) (fun e1 => ?_)
  · exact no (by unfold s_hwo; rw [e1]; rfl)
  · refine v_aload_n E dX3_hasWorkedOut_8 rfl ?_
    refine v_iload_n E dX3_hasWorkedOut_9 rfl ?_
    refine v_callV1 E dX3_hasWorkedOut_10 k_X3_54 Y_X3_isPiece (m_isPiece (d + 2) (s_nl s) (s_np s) I J c1 xp) rfl rfl rfl (Nat.le_of_ble_eq_true rfl) ?_
    refine v_if_eqB (tgt := 41) E dX3_hasWorkedOut_13 (by decide)  (fun e2 => ?_) (fun e2 => ?_)
    · exact no (by unfold s_hwo; rw [e1, e2]; rfl)
    · obtain ⟨l, hl, rfl⟩ := z_isx_true (by omega) e1
      obtain ⟨p, hp, rfl⟩ := z_isx_true (by omega) e2
      have hs : s_hwo s (nI l) (nI p) = s_out s l p := by
        unfold s_hwo
        rw [e1, e2, nI_clamp (by omega), nI_clamp (by omega)]
        rfl
      have hL := c8 l hl
      refine v_aload_n E dX3_hasWorkedOut_16 rfl ?_
      refine v_getR E f_X3_16 dX3_hasWorkedOut_17 rfl rfl rfl ?_
      refine v_iload_n E dX3_hasWorkedOut_20 rfl ?_
      refine v_callV1 E dX3_hasWorkedOut_21 k_X3_74 Y_Jx4a65c_get_915e3 (m_get d (s_nl s) I J c3 l hl w2) rfl rfl rfl (Nat.le_of_ble_eq_true rfl) ?_
      refine v_checkcast E dX3_hasWorkedOut_24 c_X3_62 (by decide) (v_cc hl) ?_
      refine v_getR E f_X3_126 dX3_hasWorkedOut_27 (v_cc hl) rfl (z_ls hl).2.2.2.2 ?_
      refine v_iload_n E dX3_hasWorkedOut_30 rfl ?_
      refine v_callV1 E dX3_hasWorkedOut_31 k_X3_201 Y_X0_isWorkedOut (m_isWorkedOut (d + 2) (z_s (s_nl s)) I J (z_pl l + 2) (z_ls hl).2.2.1 (l_f (s_rows s l)) hL.2.2.2.2.2.2.2.2.1.1 (l_f_lt (s_rows_1024 hw l (Nat.le_refl _))) p (by omega)) (z_ls hl).2.2.1.1 rfl rfl (Nat.le_of_ble_eq_true rfl) ?_
      rw [s_out_f hw l (by omega)] at *
      refine v_if_eqB (tgt := 41) E dX3_hasWorkedOut_34 (by decide)  (fun e3 => ?_) (fun e3 => ?_)
      · exact no (by rw [hs, e3])
      · refine v_iconst (v := nI 1) E dX3_hasWorkedOut_37 (by decide) ?_
        refine v_goto (tgt := 42) E dX3_hasWorkedOut_38 (by decide) ?_
        exact v_zret E X dX3_hasWorkedOut_42 (by first | exact Or.inl rfl | exact Or.inr rfl) (z_qi (by rw [hs, e3]; rfl))
theorem m_isServed (d : Nat) (s : zS) (hw : s_wf s) (I : zI) (J : zJ) (hc : cI s I J) (l : Nat) (hl : l < s_nl s) : z_C yX3_isServed cX3_isServed 2 (some .boolean) (d + 3) [.ref 1, .ref (z_pl l)] (z_s (s_nl s)) I J 0 0 (z_q (some (.int (nI (s_sv s l).toNat))) (z_s (s_nl s)) I J) := by
  obtain ⟨c1, c2, c3, c4, c5, c6, c7, c8⟩ := hc
  obtain ⟨i0, i3, i4, i5, i6, i7, i8, ir, ik, ij⟩ := c8 l hl
  obtain ⟨b0, b1, b2, b3, b4, b5⟩ := s_lsB hw l
  have w1 := hw.1
  refine z_C.of (by decide) (Nat.le_of_ble_eq_true rfl) fun K E X => ?_
  refine v_aload_n E dX3_isServed_0 rfl ?_
  refine v_aload_n E dX3_isServed_1 rfl ?_
  refine v_getR E f_X3_126 dX3_isServed_2 (v_cc hl) rfl (z_ls hl).2.2.2.2 ?_
  refine v_aload_n E dX3_isServed_5 rfl ?_
  refine v_callV1 E dX3_isServed_6 k_X3_147 Y_X3_allPieces (m_allPieces (d + 2) (s_nl s) (s_np s) I J c1 w1) rfl rfl rfl (Nat.le_of_ble_eq_true rfl) ?_
  refine v_callV1 E dX3_isServed_9 k_X3_204 Y_X1_isServedBy (m_isServedBy d (z_s (s_nl s)) I J (z_pl l) (z_pl l + 2) (z_ls hl) (z_ls hl).2.2.1 i0 i5 i6 b0 b4 b5 (l_f (s_rows s l)) ik.1 (l_f_lt b1) (2 ^ s_np s - 1) (p2_lt w1)) (v_cc hl) rfl rfl (Nat.le_of_ble_eq_true rfl) ?_
  exact v_zret E X dX3_isServed_12 (q_b01 _) z_qq
theorem m_servedCount (d : Nat) (s : zS) (hw : s_wf s) (I : zI) (J : zJ) (hc : cI s I J) : z_C yX3_servedCount cX3_servedCount 3 (some .int) (d + 4) [.ref 1] (z_s (s_nl s)) I J 0 0 (z_q (some (.int (nI (l_cnt (s_sv s) (s_nl s))))) (z_s (s_nl s)) I J) := by
  have w2 := hw.2.1
  have c3 := hc.2.2.1
  refine z_C.of (by decide) (Nat.le_of_ble_eq_true rfl) fun K E X => ?_
  refine v_iconst (v := nI 0) E dX3_servedCount_0 (by decide) ?_
  refine v_istore_n E dX3_servedCount_1 (by decide) ?_
  refine v_iconst (v := nI 0) E dX3_servedCount_2 (by decide) ?_
  refine v_istore_n E dX3_servedCount_3 (by decide) ?_
  have loop : ∀ k, k ≤ s_nl s → z_V K 4 [(0, .ref 1), (1, .int (nI (l_cnt (s_sv s) k))), (2, .int (nI k))] [] (z_s (s_nl s)) I J 0 0 := by
    refine z_for (s_nl s) ?_ (fun k hk1 ih => ?_)
    · refine v_iload_n E dX3_servedCount_4 rfl ?_
      refine v_aload_n E dX3_servedCount_5 rfl ?_
      refine v_getR E f_X3_16 dX3_servedCount_6 rfl rfl rfl ?_
      refine v_callV1 E dX3_servedCount_9 k_X3_58 Y_Jx4a65c_size_8abf5 (m_size (d + 3) (s_nl s) I J c3) rfl rfl rfl (Nat.le_of_ble_eq_true rfl) ?_
      refine v_icmp_geN (tgt := 42) E dX3_servedCount_12 (by decide) (by omega) (by omega) (fun c => ?_) (fun c => ?_)
      · refine v_iload_n E dX3_servedCount_42 rfl ?_
        exact v_iret E X dX3_servedCount_43 z_qq
      · exact absurd c (by omega)
    · refine v_iload_n E dX3_servedCount_4 rfl ?_
      refine v_aload_n E dX3_servedCount_5 rfl ?_
      refine v_getR E f_X3_16 dX3_servedCount_6 rfl rfl rfl ?_
      refine v_callV1 E dX3_servedCount_9 k_X3_58 Y_Jx4a65c_size_8abf5 (m_size (d + 3) (s_nl s) I J c3) rfl rfl rfl (Nat.le_of_ble_eq_true rfl) ?_
      refine v_icmp_geN (tgt := 42) E dX3_servedCount_12 (by decide) (by omega) (by omega) (fun c => ?_) (fun c => ?_)
      · exact absurd c (by omega)
      · refine v_iload_n E dX3_servedCount_15 rfl ?_
        refine v_aload_n E dX3_servedCount_16 rfl ?_
        refine v_aload_n E dX3_servedCount_17 rfl ?_
        refine v_getR E f_X3_16 dX3_servedCount_18 rfl rfl rfl ?_
        refine v_iload_n E dX3_servedCount_21 rfl ?_
        refine v_callV1 E dX3_servedCount_22 k_X3_74 Y_Jx4a65c_get_915e3 (m_get (d + 1) (s_nl s) I J c3 k hk1 w2) rfl rfl rfl (Nat.le_of_ble_eq_true rfl) ?_
        refine v_checkcast E dX3_servedCount_25 c_X3_62 (by decide) (v_cc hk1) ?_
        refine v_callV1 E dX3_servedCount_28 k_X3_132 Y_X3_isServed (m_isServed d s hw I J hc k hk1) rfl rfl rfl (Nat.le_of_ble_eq_true rfl) ?_
        refine v_callS1 E dX3_servedCount_31 k_X3_104 Y_X3_oneIf (m_oneIf (d + 3) (z_s (s_nl s)) I J (s_sv s k)) rfl rfl (Nat.le_of_ble_eq_true rfl) ?_
        refine v_iaddN E dX3_servedCount_34 ?_
        refine v_istore_n E dX3_servedCount_35 (by decide) ?_
        refine v_inc E dX3_servedCount_36 rfl (by decide) ?_
        refine v_goto (tgt := 4) E dX3_servedCount_39 (by decide) ?_
        exact ih
  exact loop 0 (by omega)
/-- the sum of f below k -/
def l_add (f : Nat → Nat) : Nat → Nat
  | 0 => 0
  | k + 1 => l_add f k + f k
theorem m_rankOfAll (d : Nat) (s : zS) (hw : s_wf s) (I : zI) (J : zJ) (hc : cI s I J) : z_C yX3_rankOfAll cX3_rankOfAll 3 (some .int) (d + 3) [.ref 1] (z_s (s_nl s)) I J 0 0 (z_q (some (.int (nI (l_add (fun l => l_rk (s_rows s l)) (s_nl s))))) (z_s (s_nl s)) I J) := by
  have w2 := hw.2.1
  have c3 := hc.2.2.1
  have c8 := hc.2.2.2.2.2.2.2
  refine z_C.of (by decide) (Nat.le_of_ble_eq_true rfl) fun K E X => ?_
  refine v_iconst (v := nI 0) E dX3_rankOfAll_0 (by decide) ?_
  refine v_istore_n E dX3_rankOfAll_1 (by decide) ?_
  refine v_iconst (v := nI 0) E dX3_rankOfAll_2 (by decide) ?_
  refine v_istore_n E dX3_rankOfAll_3 (by decide) ?_
  have loop : ∀ k, k ≤ s_nl s → z_V K 4 [(0, .ref 1), (1, .int (nI (l_add (fun l => l_rk (s_rows s l)) k))), (2, .int (nI k))] [] (z_s (s_nl s)) I J 0 0 := by
    refine z_for (s_nl s) ?_ (fun k hk1 ih => ?_)
    · refine v_iload_n E dX3_rankOfAll_4 rfl ?_
      refine v_aload_n E dX3_rankOfAll_5 rfl ?_
      refine v_getR E f_X3_16 dX3_rankOfAll_6 rfl rfl rfl ?_
      refine v_callV1 E dX3_rankOfAll_9 k_X3_58 Y_Jx4a65c_size_8abf5 (m_size (d + 2) (s_nl s) I J c3) rfl rfl rfl (Nat.le_of_ble_eq_true rfl) ?_
      refine v_icmp_geN (tgt := 41) E dX3_rankOfAll_12 (by decide) (by omega) (by omega) (fun c => ?_) (fun c => ?_)
      · refine v_iload_n E dX3_rankOfAll_41 rfl ?_
        exact v_iret E X dX3_rankOfAll_42 z_qq
      · exact absurd c (by omega)
    · refine v_iload_n E dX3_rankOfAll_4 rfl ?_
      refine v_aload_n E dX3_rankOfAll_5 rfl ?_
      refine v_getR E f_X3_16 dX3_rankOfAll_6 rfl rfl rfl ?_
      refine v_callV1 E dX3_rankOfAll_9 k_X3_58 Y_Jx4a65c_size_8abf5 (m_size (d + 2) (s_nl s) I J c3) rfl rfl rfl (Nat.le_of_ble_eq_true rfl) ?_
      refine v_icmp_geN (tgt := 41) E dX3_rankOfAll_12 (by decide) (by omega) (by omega) (fun c => ?_) (fun c => ?_)
      · exact absurd c (by omega)
      · refine v_iload_n E dX3_rankOfAll_15 rfl ?_
        refine v_aload_n E dX3_rankOfAll_16 rfl ?_
        refine v_getR E f_X3_16 dX3_rankOfAll_17 rfl rfl rfl ?_
        refine v_iload_n E dX3_rankOfAll_20 rfl ?_
        refine v_callV1 E dX3_rankOfAll_21 k_X3_74 Y_Jx4a65c_get_915e3 (m_get d (s_nl s) I J c3 k hk1 w2) rfl rfl rfl (Nat.le_of_ble_eq_true rfl) ?_
        refine v_checkcast E dX3_rankOfAll_24 c_X3_62 (by decide) (v_cc hk1) ?_
        refine v_getR E f_X3_126 dX3_rankOfAll_27 (v_cc hk1) rfl (z_ls hk1).2.2.2.2 ?_
        refine v_getIE E f_X3_129 dX3_rankOfAll_30 (z_ls hk1).2.2.1.1 rfl (c8 k hk1).2.2.2.2.2.2.2.2.1.2 ?_
        refine v_iaddN E dX3_rankOfAll_33 ?_
        refine v_istore_n E dX3_rankOfAll_34 (by decide) ?_
        refine v_inc E dX3_rankOfAll_35 rfl (by decide) ?_
        refine v_goto (tgt := 4) E dX3_rankOfAll_38 (by decide) ?_
        exact ih
  exact loop 0 (by omega)
