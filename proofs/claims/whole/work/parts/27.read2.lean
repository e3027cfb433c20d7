/-! OneCall: about, gets, lack -/
theorem m_about (d : Nat) (s : zS) (hw : s_wf s) (I : zI) (J : zJ) (hc : cI s I J) (x y : Int32) : z_C yX3_about cX3_about 4 (some .int) (d + 4) [.ref 1, .int x, .int y] (z_s (s_nl s)) I J 0 0 (z_q (some (.int (r_about s x y))) (z_s (s_nl s)) I J) := by
  have c1 := hc.1
  have c3 := hc.2.2.1
  have c8 := hc.2.2.2.2.2.2.2
  have w2 := hw.2.1
  refine z_C.of (by decide) (Nat.le_of_ble_eq_true rfl) fun K E X => ?_
  refine v_aload_n E dX3_about_0 rfl ?_
  refine v_iload_n E dX3_about_1 rfl ?_
  refine v_callV1 E dX3_about_2 k_X3_71 Y_X3_isListener (m_isListener (d + 2) (s_nl s) I J c3 x) rfl rfl rfl (Nat.le_of_ble_eq_true rfl) ?_
  refine v_if_neB (tgt := 10) E dX3_about_5 (by decide)  (fun e1 => ?_) (fun e1 => ?_)
  · have f1 := e1
    obtain ⟨l, hl, rfl⟩ := z_isx_true (by omega) e1
    obtain ⟨i0, i3, i4, i5, i6, i7, i8, ir, ik, ij⟩ := c8 l hl
    have hr : r_about s (nI l) y = if z_isx y 8 then r_aboutN s l y.toNatClampNeg else -1 := by
      unfold r_about
      rw [f1, nI_clamp (by omega)]
      rfl
    refine v_aload_n E dX3_about_10 rfl ?_
    refine v_getR E f_X3_16 dX3_about_11 rfl rfl rfl ?_
    refine v_iload_n E dX3_about_14 rfl ?_
    refine v_callV1 E dX3_about_15 k_X3_74 Y_Jx4a65c_get_915e3 (m_get (d + 1) (s_nl s) I J c3 l hl w2) rfl rfl rfl (Nat.le_of_ble_eq_true rfl) ?_
    refine v_checkcast E dX3_about_18 c_X3_62 (by decide) (v_cc hl) ?_
    refine v_astore_n E dX3_about_21 (by decide) ?_
    refine v_iload_n E dX3_about_22 rfl ?_
    cases e2 : z_isx y 8 with
    | false =>
      refine v_tableOut (tgt := 126) E dX3_about_23 (by have := z_out (by decide) e2; omega) (by decide) ?_
      refine v_iconst (v := -1) E dX3_about_126 (by decide) ?_
      exact v_iret E X dX3_about_127 (z_qi (by rw [hr, e2]; rfl))
    | true =>
      have f2 := e2
      obtain ⟨w, hw1, rfl⟩ := z_isx_true (by decide) e2
      rcases (show w = 0 ∨ w = 1 ∨ w = 2 ∨ w = 3 ∨ w = 4 ∨ w = 5 ∨ w = 6 ∨ w = 7 by omega) with rfl | rfl | rfl | rfl | rfl | rfl | rfl | rfl
      · refine v_tableIn (off := 45) (tgt := 68) E dX3_about_23 (by decide) (by decide) (by decide) (by decide) ?_
        refine v_aload_n E dX3_about_68 rfl ?_
        refine v_getIE E f_X3_78 dX3_about_69 (v_cc hl) rfl i0 ?_
        exact v_iret E X dX3_about_72 (z_qi (by rw [hr, f2]; rfl))
      · refine v_tableIn (off := 50) (tgt := 73) E dX3_about_23 (by decide) (by decide) (by decide) (by decide) ?_
        refine v_aload_n E dX3_about_73 rfl ?_
        refine v_getIE E f_X3_94 dX3_about_74 (v_cc hl) rfl i4 ?_
        exact v_iret E X dX3_about_77 (z_qi (by rw [hr, f2]; rfl))
      · refine v_tableIn (off := 55) (tgt := 78) E dX3_about_23 (by decide) (by decide) (by decide) (by decide) ?_
        refine v_aload_n E dX3_about_78 rfl ?_
        refine v_getIE E f_X3_123 dX3_about_79 (v_cc hl) rfl i3 ?_
        exact v_iret E X dX3_about_82 (z_qi (by rw [hr, f2]; rfl))
      · refine v_tableIn (off := 60) (tgt := 83) E dX3_about_23 (by decide) (by decide) (by decide) (by decide) ?_
        refine v_aload_n E dX3_about_83 rfl ?_
        refine v_getR E f_X3_126 dX3_about_84 (v_cc hl) rfl (z_ls hl).2.2.2.2 ?_
        refine v_getIE E f_X3_129 dX3_about_87 (z_ls hl).2.2.1.1 rfl ik.2 ?_
        exact v_iret E X dX3_about_90 (z_qi (by rw [hr, f2]; rfl))
      · refine v_tableIn (off := 68) (tgt := 91) E dX3_about_23 (by decide) (by decide) (by decide) (by decide) ?_
        refine v_aload_n E dX3_about_91 rfl ?_
        refine v_getIE E f_X3_51 dX3_about_92 rfl rfl c1 ?_
        refine v_aload_n E dX3_about_95 rfl ?_
        refine v_getR E f_X3_126 dX3_about_96 (v_cc hl) rfl (z_ls hl).2.2.2.2 ?_
        refine v_getIE E f_X3_129 dX3_about_99 (z_ls hl).2.2.1.1 rfl ik.2 ?_
        refine v_isub E dX3_about_102 ?_
        exact v_iret E X dX3_about_103 (z_qi (by rw [hr, f2]; rfl))
      · refine v_tableIn (off := 81) (tgt := 104) E dX3_about_23 (by decide) (by decide) (by decide) (by decide) ?_
        refine v_aload_n E dX3_about_104 rfl ?_
        refine v_getIE E f_X3_81 dX3_about_105 (v_cc hl) rfl i6 ?_
        exact v_iret E X dX3_about_108 (z_qi (by rw [hr, f2]; rfl))
      · refine v_tableIn (off := 86) (tgt := 109) E dX3_about_23 (by decide) (by decide) (by decide) (by decide) ?_
        refine v_aload_n E dX3_about_109 rfl ?_
        refine v_aload_n E dX3_about_110 rfl ?_
        refine v_callV1 E dX3_about_111 k_X3_132 Y_X3_isServed (m_isServed d s hw I J hc l hl) rfl rfl rfl (Nat.le_of_ble_eq_true rfl) ?_
        refine v_callS1 E dX3_about_114 k_X3_104 Y_X3_oneIf (m_oneIf (d + 3) (z_s (s_nl s)) I J (s_sv s l)) rfl rfl (Nat.le_of_ble_eq_true rfl) ?_
        exact v_iret E X dX3_about_117 (z_qi (by rw [hr, f2]; rfl))
      · refine v_tableIn (off := 95) (tgt := 118) E dX3_about_23 (by decide) (by decide) (by decide) (by decide) ?_
        refine v_aload_n E dX3_about_118 rfl ?_
        refine v_getIE E f_X3_100 dX3_about_119 (v_cc hl) rfl i8 ?_
        refine v_callS1 E dX3_about_122 k_X3_104 Y_X3_oneIf (m_oneIf (d + 3) (z_s (s_nl s)) I J (s_of s l)) rfl rfl (Nat.le_of_ble_eq_true rfl) ?_
        exact v_iret E X dX3_about_125 (z_qi (by rw [hr, f2]; rfl))
  · refine v_iconst (v := -1) E dX3_about_8 (by decide) ?_
    exact v_iret E X dX3_about_9 (z_qi (by unfold r_about; rw [e1]; rfl))
theorem q_lg {b : Bool} : lg_cmp (lN b.toNat) (lN 0) = nI b.toNat := by cases b <;> decide +kernel
theorem m_gets (d : Nat) (s : zS) (hw : s_wf s) (I : zI) (J : zJ) (hc : cI s I J) (x y : Int32) : z_C yX3_gets cX3_gets 9 (some .long) (d + 4) [.ref 1, .int x, .int y] (z_s (s_nl s)) I J 0 0 (z_q (some (.long (r_gets s x y))) (z_s (s_nl s)) I J) := by
  have w1 := hw.1
  have w2 := hw.2.1
  have c1 := hc.1
  have c3 := hc.2.2.1
  have c4 := hc.2.2.2.1
  have c8 := hc.2.2.2.2.2.2.2
  refine z_C.of (by decide) (Nat.le_of_ble_eq_true rfl) fun K E X => ?_
  refine v_aload_n E dX3_gets_0 rfl ?_
  refine v_iload_n E dX3_gets_1 rfl ?_
  refine v_iload_n E dX3_gets_2 rfl ?_
  refine v_callV1 E dX3_gets_3 k_X3_139 Y_X3_hasWorkedOut (m_hasWorkedOut d s hw I J hc x y) rfl rfl rfl (Nat.le_of_ble_eq_true rfl) ?_
  refine v_if_neB (tgt := 11) E dX3_gets_6 (by decide)  (fun e => ?_) (fun e => ?_)
  · have e2 := e
    obtain ⟨l, p, hl, hp, rfl, rfl, ho⟩ := s_hwo_true hw e
    obtain ⟨i0, i3, i4, i5, i6, i7, i8, ir, ik, ij⟩ := c8 l hl
    obtain ⟨b0, b1, b2, b3, b4, b5⟩ := s_lsB hw l
    have hr : r_gets s (nI l) (nI p) = q_gets (s_pv s) (s_rows s l) (s_np s) (l_b (s_rows s l) p) (s_rows s l).length := by
      unfold r_gets
      rw [e2, nI_clamp (by omega), nI_clamp (by omega)]
      rfl
    have hbl : l_b (s_rows s l) p < 2 ^ 62 := Nat.lt_of_lt_of_le (l_b_lt b1 (by omega)) (Nat.pow_le_pow_right (by decide) (by omega))
    refine v_aload_n E dX3_gets_11 rfl ?_
    refine v_getR E f_X3_16 dX3_gets_12 rfl rfl rfl ?_
    refine v_iload_n E dX3_gets_15 rfl ?_
    refine v_callV1 E dX3_gets_16 k_X3_74 Y_Jx4a65c_get_915e3 (m_get (d + 1) (s_nl s) I J c3 l hl w2) rfl rfl rfl (Nat.le_of_ble_eq_true rfl) ?_
    refine v_checkcast E dX3_gets_19 c_X3_62 (by decide) (v_cc hl) ?_
    refine v_astore_n E dX3_gets_22 (by decide) ?_
    refine v_aload_n E dX3_gets_23 rfl ?_
    refine v_getR E f_X3_126 dX3_gets_24 (v_cc hl) rfl (z_ls hl).2.2.2.2 ?_
    refine v_getR E f_X3_142 dX3_gets_27 (z_ls hl).2.2.1.1 rfl (z_ls hl).2.2.1.2.2.2.2 ?_
    refine v_iload_n E dX3_gets_30 rfl ?_
    refine v_laloadE E dX3_gets_31 (z_ls hl).2.2.1.2.2.1 rfl (by omega) (by decide) (ij p (by omega)) ?_
    refine v_lstore E dX3_gets_32 (by decide) ?_
    refine v_lconst (v := lN 0) E dX3_gets_34 (by decide) ?_
    refine v_lstore E dX3_gets_35 (by decide) ?_
    refine v_iconst (v := nI 0) E dX3_gets_37 (by decide) ?_
    refine v_istore E dX3_gets_38 (by decide) ?_
    have loop : ∀ k, k ≤ (s_rows s l).length → z_V K 40 [(0, .ref 1), (1, .int (nI l)), (2, .int (nI p)), (3, .ref (z_pl l)), (4, .long (lN (l_b (s_rows s l) p))), (6, .long (q_gets (s_pv s) (s_rows s l) (s_np s) (l_b (s_rows s l) p) k)), (8, .int (nI k))] [] (z_s (s_nl s)) I J 0 0 := by
      refine z_for _ ?_ (fun k hk ih => ?_)
      · refine v_iload E dX3_gets_40 rfl ?_
        refine v_aload_n E dX3_gets_42 rfl ?_
        refine v_getIE E f_X3_123 dX3_gets_43 (v_cc hl) rfl i3 ?_
        refine v_icmp_geN (tgt := 83) E dX3_gets_46 (by decide) (by omega) (by omega) (fun c => ?_) (fun c => ?_)
        · refine v_lload E dX3_gets_83 rfl ?_
          exact v_lret E X dX3_gets_85 (z_ql hr.symm)
        · exact absurd c (by omega)
      · refine v_iload E dX3_gets_40 rfl ?_
        refine v_aload_n E dX3_gets_42 rfl ?_
        refine v_getIE E f_X3_123 dX3_gets_43 (v_cc hl) rfl i3 ?_
        refine v_icmp_geN (tgt := 83) E dX3_gets_46 (by decide) (by omega) (by omega) (fun c => ?_) (fun c => ?_)
        · exact absurd c (by omega)
        · refine v_lload E dX3_gets_49 rfl ?_
          refine v_iload E dX3_gets_51 rfl ?_
          refine v_lshrN E dX3_gets_53 hbl (by omega) ?_
          refine v_lconst (v := lN 1) E dX3_gets_54 (by decide) ?_
          refine v_landN E dX3_gets_55 ?_
          refine v_topl (show lN (l_b (s_rows s l) p / 2 ^ k &&& 1) = lN ((l_b (s_rows s l) p).testBit k).toNat by rw [q_a1, q_tbn]) ?_
          refine v_lconst (v := lN 0) E dX3_gets_56 (by decide) ?_
          refine v_lcmp E dX3_gets_57 ?_
          refine v_top q_lg ?_
          have e3 : q_gets (s_pv s) (s_rows s l) (s_np s) (l_b (s_rows s l) p) (k + 1) = if (l_b (s_rows s l) p).testBit k then q_gets (s_pv s) (s_rows s l) (s_np s) (l_b (s_rows s l) p) k ^^^ q_sum (s_pv s) (l_row (s_rows s l) k) (s_np s) else q_gets (s_pv s) (s_rows s l) (s_np s) (l_b (s_rows s l) p) k := rfl
          refine v_if_eqB (tgt := 77) E dX3_gets_58 (by decide)  (fun c2 => ?_) (fun c2 => ?_)
          · rw [c2] at e3
            rw [e3] at ih
            refine v_inc E dX3_gets_77 rfl (by decide) ?_
            refine v_goto (tgt := 40) E dX3_gets_80 (by decide) ?_
            exact ih
          · rw [c2] at e3
            rw [e3] at ih
            refine v_lload E dX3_gets_61 rfl ?_
            refine v_aload_n E dX3_gets_63 rfl ?_
            refine v_aload_n E dX3_gets_64 rfl ?_
            refine v_getR E f_X3_136 dX3_gets_65 (v_cc hl) rfl (z_ls hl).2.2.2.1 ?_
            refine v_iload E dX3_gets_68 rfl ?_
            refine v_ialoadE E dX3_gets_70 (z_ls hl).2.1 rfl (by omega) (by decide) (ir k hk) ?_
            refine v_callV1 E dX3_gets_71 k_X3_115 Y_X3_bytesOf (m_bytesOf (d + 2) (s_nl s) (s_np s) I J c1 w1 (s_pv s) c4 (l_row (s_rows s l) k) (l_row_lt b1 k)) rfl rfl rfl (Nat.le_of_ble_eq_true rfl) ?_
            refine v_lxor E dX3_gets_74 ?_
            refine v_lstore E dX3_gets_75 (by decide) ?_
            refine v_inc E dX3_gets_77 rfl (by decide) ?_
            refine v_goto (tgt := 40) E dX3_gets_80 (by decide) ?_
            exact ih
    exact loop 0 (by omega)
  · refine v_lconst (v := lN 0) E dX3_gets_9 (by decide) ?_
    exact v_lret E X dX3_gets_10 (z_ql (by unfold r_gets; rw [e]; rfl))
theorem q_bit_low {m p : Nat} (h : m < 2 ^ p) : m.testBit p = false := q_hi h (Nat.le_refl _)
theorem m_lack (d : Nat) (s : zS) (hw : s_wf s) (I : zI) (J : zJ) (hc : cI s I J) (x y : Int32) : z_C yX3_lack cX3_lack 5 (some .int) (d + 4) [.ref 1, .int x, .int y] (z_s (s_nl s)) I J 0 0 (z_q (some (.int (r_lack s x y))) (z_s (s_nl s)) I J) := by
  have w1 := hw.1
  have w2 := hw.2.1
  have c1 := hc.1
  have c3 := hc.2.2.1
  have c8 := hc.2.2.2.2.2.2.2
  refine z_C.of (by decide) (Nat.le_of_ble_eq_true rfl) fun K E X => ?_
  have no : (z_isx x (s_nl s) && (z_isx y (s_np s) && !s_out s x.toNatClampNeg y.toNatClampNeg)) = false → z_V K 25 [(0, .ref 1), (1, .int x), (2, .int y)] [] (z_s (s_nl s)) I J 0 0 := by
    intro e
    refine v_iconst (v := -1) E dX3_lack_25 (by decide) ?_
    exact v_iret E X dX3_lack_26 (z_qi (by unfold r_lack; rw [e]; rfl))
  refine v_aload_n E dX3_lack_0 rfl ?_
  refine v_iload_n E dX3_lack_1 rfl ?_
  refine v_callV1 E dX3_lack_2 k_X3_71 Y_X3_isListener (m_isListener (d + 2) (s_nl s) I J c3 x) rfl rfl rfl (Nat.le_of_ble_eq_true rfl) ?_
  refine v_if_eqB (tgt := 25) E dX3_lack_5 (by decide)  (fun e1 => ?_) (fun e1 => ?_)
  · exact no (by rw [e1]; rfl)
  · refine v_aload_n E dX3_lack_8 rfl ?_
    refine v_iload_n E dX3_lack_9 rfl ?_
    refine v_callV1 E dX3_lack_10 k_X3_54 Y_X3_isPiece (m_isPiece (d + 3) (s_nl s) (s_np s) I J c1 y) rfl rfl rfl (Nat.le_of_ble_eq_true rfl) ?_
    refine v_if_eqB (tgt := 25) E dX3_lack_13 (by decide)  (fun e2 => ?_) (fun e2 => ?_)
    · exact no (by rw [e1, e2]; rfl)
    · refine v_aload_n E dX3_lack_16 rfl ?_
      refine v_iload_n E dX3_lack_17 rfl ?_
      refine v_iload_n E dX3_lack_18 rfl ?_
      refine v_callV1 E dX3_lack_19 k_X3_139 Y_X3_hasWorkedOut (m_hasWorkedOut d s hw I J hc x y) rfl rfl rfl (Nat.le_of_ble_eq_true rfl) ?_
      have hh : s_hwo s x y = s_out s x.toNatClampNeg y.toNatClampNeg := by unfold s_hwo; rw [e1, e2]; rfl
      rw [hh]
      refine v_if_eqB (tgt := 27) E dX3_lack_22 (by decide)  (fun e3 => ?_) (fun e3 => ?_)
      · have hr : r_lack s x y = q_find (q_lk (s_rows s x.toNatClampNeg) y.toNatClampNeg) (2 ^ s_np s - 1) 1 := by
          unfold r_lack
          rw [e1, e2, e3]
          rfl
        obtain ⟨l, hl, rfl⟩ := z_isx_true (by omega) e1
        obtain ⟨p, hp, rfl⟩ := z_isx_true (by omega) e2
        rw [nI_clamp (by omega), nI_clamp (by omega)] at hr
        have hB := s_lsB hw l
        have hp2 : 2 ^ p < 2 ^ s_np s := Nat.pow_lt_pow_right (by decide) hp
        have hpp : 0 < 2 ^ p := Nat.two_pow_pos p
        have hnp : 2 ^ s_np s ≤ 2 ^ 10 := Nat.pow_le_pow_right (by decide) w1
        have hr2 : r_lack s (nI l) (nI p) = q_find (q_lk (s_rows s l) p) (2 ^ s_np s - 2 ^ p) (2 ^ p) := by
          rw [hr]
          have := q_find_skip (q_lk (s_rows s l) p) (2 ^ p - 1) (2 ^ s_np s - 2 ^ p) 1 (fun i h1 h2 => by
            unfold q_lk
            rw [q_bit_low (show i < 2 ^ p by omega)]
            rfl)
          rw [show 2 ^ s_np s - 2 ^ p + (2 ^ p - 1) = 2 ^ s_np s - 1 by omega, show 1 + (2 ^ p - 1) = 2 ^ p by omega] at this
          exact this
        refine v_aload_n E dX3_lack_27 rfl ?_
        refine v_getR E f_X3_16 dX3_lack_28 rfl rfl rfl ?_
        refine v_iload_n E dX3_lack_31 rfl ?_
        refine v_callV1 E dX3_lack_32 k_X3_74 Y_Jx4a65c_get_915e3 (m_get (d + 1) (s_nl s) I J c3 l hl w2) rfl rfl rfl (Nat.le_of_ble_eq_true rfl) ?_
        refine v_checkcast E dX3_lack_35 c_X3_62 (by decide) (v_cc hl) ?_
        refine v_astore_n E dX3_lack_38 (by decide) ?_
        refine v_iconst (v := nI 1) E dX3_lack_39 (by decide) ?_
        refine v_iload_n E dX3_lack_40 rfl ?_
        refine v_ishlN E dX3_lack_41 (by omega) ?_
        refine v_istore E dX3_lack_42 (by decide) ?_
        have loop : ∀ k m, m + k = 2 ^ s_np s → r_lack s (nI l) (nI p) = q_find (q_lk (s_rows s l) p) k m → z_V K 44 [(0, .ref 1), (1, .int (nI l)), (2, .int (nI p)), (3, .ref (z_pl l)), (4, .int (nI m))] [] (z_s (s_nl s)) I J 0 0 := by
          intro k
          induction k with
          | zero =>
            intro m hm hq
            refine v_iload E dX3_lack_44 rfl ?_
            refine v_aload_n E dX3_lack_46 rfl ?_
            refine v_callV1 E dX3_lack_47 k_X3_147 Y_X3_allPieces (m_allPieces (d + 3) (s_nl s) (s_np s) I J c1 w1) rfl rfl rfl (Nat.le_of_ble_eq_true rfl) ?_
            refine v_icmp_gtN (tgt := 80) E dX3_lack_50 (by decide) (by omega) (by omega) (fun c => ?_) (fun c => ?_)
            · refine v_iconst (v := -1) E dX3_lack_80 (by decide) ?_
              exact v_iret E X dX3_lack_81 (z_qi (by rw [hq]; rfl))
            · exact absurd c (by omega)
          | succ k ih =>
            intro m hm hq
            have hq1 : q_find (q_lk (s_rows s l) p) (k + 1) m = if q_lk (s_rows s l) p m then nI m else q_find (q_lk (s_rows s l) p) k (m + 1) := rfl
            have next : q_lk (s_rows s l) p m = false → z_V K 74 [(0, .ref 1), (1, .int (nI l)), (2, .int (nI p)), (3, .ref (z_pl l)), (4, .int (nI m))] [] (z_s (s_nl s)) I J 0 0 := by
              intro e
              rw [e] at hq1
              refine v_inc E dX3_lack_74 rfl (by decide) ?_
              refine v_goto (tgt := 44) E dX3_lack_77 (by decide) ?_
              exact ih (m + 1) (by omega) (by rw [hq, hq1]; rfl)
            refine v_iload E dX3_lack_44 rfl ?_
            refine v_aload_n E dX3_lack_46 rfl ?_
            refine v_callV1 E dX3_lack_47 k_X3_147 Y_X3_allPieces (m_allPieces (d + 3) (s_nl s) (s_np s) I J c1 w1) rfl rfl rfl (Nat.le_of_ble_eq_true rfl) ?_
            refine v_icmp_gtN (tgt := 80) E dX3_lack_50 (by decide) (by omega) (by omega) (fun c => ?_) (fun c => ?_)
            · exact absurd c (by omega)
            · refine v_iload_n E dX3_lack_53 rfl ?_
              refine v_iload E dX3_lack_54 rfl ?_
              refine v_callS1 E dX3_lack_56 k_X3_84 Y_X3_isIn (m_isIn (d + 3) (z_s (s_nl s)) I J p m (by omega) (by omega)) rfl rfl (Nat.le_of_ble_eq_true rfl) ?_
              refine v_if_eqB (tgt := 74) E dX3_lack_59 (by decide)  (fun c2 => ?_) (fun c2 => ?_)
              · exact next (by unfold q_lk; rw [c2]; rfl)
              · refine v_aload_n E dX3_lack_62 rfl ?_
                refine v_iload E dX3_lack_63 rfl ?_
                refine v_callV1 E dX3_lack_65 k_X3_150 Y_X1_isEvenInAllRows (m_isEven (d + 2) (z_s (s_nl s)) I J (z_pl l) (z_ls hl) (c8 l hl) hB m (by omega)) (v_cc hl) rfl rfl (Nat.le_of_ble_eq_true rfl) ?_
                refine v_if_eqB (b := q_even (s_rows s l) m) (tgt := 74) E dX3_lack_68 (by decide) (fun c3 => ?_) (fun c3 => ?_)
                · exact next (by unfold q_lk; rw [c2, c3]; rfl)
                · refine v_iload E dX3_lack_71 rfl ?_
                  have e5 : q_lk (s_rows s l) p m = true := by unfold q_lk; rw [c2, c3]; rfl
                  rw [e5] at hq1
                  exact v_iret E X dX3_lack_73 (z_qi (by rw [hq, hq1]; rfl))
        rw [Nat.one_mul]
        exact loop (2 ^ s_np s - 2 ^ p) (2 ^ p) (by omega) hr2
      · exact no (by rw [e1, e2, e3]; rfl)
