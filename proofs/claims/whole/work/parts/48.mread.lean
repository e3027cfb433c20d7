/-! THE MODEL: reads -/
theorem mR.e {v w : Int32} {nl : Nat} {I I' : zI} {J : zJ} (e : w = v) (hS : mS I I') : mR (.int v) nl I J (some (.int w)) (z_s nl) I' J := ⟨by rw [e], rfl, hS, rfl⟩
theorem mR.l {v w : Int64} {nl : Nat} {I I' : zI} {J : zJ} (e : w = v) (hS : mS I I') : mR (.long v) nl I J (some (.long w)) (z_s nl) I' J := ⟨by rw [e], rfl, hS, rfl⟩
theorem l_sp_zero (rs : List Nat) (m : Nat) : l_sp (0 :: rs) m = l_sp rs m := by simp [l_sp]
theorem mm_served0 (d nl : Nat) (s : zS) (hw : s_wf s) (I : zI) (J : zJ) (hm : mI s I J) (l : Nat) (hl : l < s_nl s) (rs : List Nat) (hr : ∀ r ∈ rs, r < 2 ^ s_np s) (hO : knO l rs I) : z_C yX4_isServed cX4_isServed 8 (some .boolean) (d + 1) [.ref 17, .int (nI l), .int (nI 0)] (z_s nl) I J 0 0 (z_q (some (.int (nI (l_sv (s_kd s l) (s_hp s l) (s_wt s l) (l_wo (l_f rs) 0 10) (2 ^ s_np s - 1)).toNat))) (z_s nl) I J) := by
  have h := mm_isServed d nl s hw I J hm l hl rs hO 0 (by decide)
  rw [b_sv_congr (V := fun p => l_sp rs (2 ^ p)) (fun p _ => l_sp_zero rs (2 ^ p)), b_sv_eq hw.1 hr (hw.2.2.2.2.1 l)] at h
  exact h
theorem s_rows_np {s : zS} (hw : s_wf s) (l : Nat) {c : Nat} (hc : c ≤ s_nc s) : ∀ r ∈ s_rowsAt s l c, r < 2 ^ s_np s := fun _ h => (s_rowsAt_mem hw hc h).2
/-- the rows that calls made, by their numbers -/
theorem r_lenS (s : zS) (l c : Nat) : (s_rowsAt s l (c + 1)).length = (s_rowsAt s l c).length + ((s_hb s c).testBit l).toNat := by
  show (if (s_hb s c).testBit l then s_cm s c :: s_rowsAt s l c else s_rowsAt s l c).length = _
  cases (s_hb s c).testBit l <;> rfl
theorem r_newS (s : zS) (l c : Nat) (hb : (s_hb s c).testBit l = true) : ∀ j, (s_rowsAt s l c).length < (s_rowsAt s l (c + 1 + j)).length ∧ (l_nw (s_rowsAt s l (c + 1 + j))).testBit (s_rowsAt s l c).length = !l_sp (s_rowsAt s l c) (s_cm s c)
  | 0 => by
    have e : s_rowsAt s l (c + 1) = s_cm s c :: s_rowsAt s l c := by
      show (if (s_hb s c).testBit l then s_cm s c :: s_rowsAt s l c else s_rowsAt s l c) = _
      rw [hb]
      rfl
    show _ < (s_rowsAt s l (c + 1)).length ∧ (l_nw (s_rowsAt s l (c + 1))).testBit _ = _
    rw [e]
    refine ⟨by simp, ?_⟩
    rw [l_nw_cons, if_pos rfl]
  | j + 1 => by
    have ih := r_newS s l c hb j
    have e : s_rowsAt s l (c + 1 + (j + 1)) = if (s_hb s (c + 1 + j)).testBit l then s_cm s (c + 1 + j) :: s_rowsAt s l (c + 1 + j) else s_rowsAt s l (c + 1 + j) := rfl
    rw [e]
    cases (s_hb s (c + 1 + j)).testBit l with
    | false => exact ih
    | true =>
      refine ⟨?_, ?_⟩
      · show _ < (s_rowsAt s l (c + 1 + j)).length + 1
        omega
      · show (l_nw (s_cm s (c + 1 + j) :: s_rowsAt s l (c + 1 + j))).testBit _ = _
        rw [l_nw_cons, if_neg (by omega)]
        exact ih.2
theorem mm_isNewFor (d nl : Nat) (s : zS) (hw : s_wf s) (I : zI) (J : zJ) (hm : mI s I J) (l : Nat) (hl : l < s_nl s) (c : Nat) (hc : c < s_nc s) (hb : (s_hb s c).testBit l = true) : z_C yX4_isNewFor cX4_isNewFor 5 (some .boolean) (d + 2) [.ref 17, .int (nI l), .int (nI c)] (z_s nl) I J 0 0 (mR (.int (nI (!l_sp (s_rowsAt s l c) (s_cm s c)).toNat)) nl I J) := by
  have hn := r_newS s l c hb (s_nc s - (c + 1))
  rw [show c + 1 + (s_nc s - (c + 1)) = s_nc s by omega] at hn
  have hlen := s_rows_len hw l (s_nc s)
  have hw0 := hw
  obtain ⟨w1, w2, w3, w4, w5, w6, w7, w8, w9, w10⟩ := hw
  have h12 := w6 l
  refine z_C.of (by decide) (Nat.le_of_ble_eq_true rfl) fun K E X => ?_
  refine v_aload_n E dX4_isNewFor_0 rfl ?_
  refine v_iload_n E dX4_isNewFor_1 rfl ?_
  refine v_callV E dX4_isNewFor_2 k_X4_120 Y_X4_know (mm_know d nl s hw0 I J hm l hl) rfl rfl rfl (Nat.le_of_ble_eq_true rfl) ?_
  rintro r h' I' J' ⟨rfl, rfl, g1, g2, g3, rfl⟩
  obtain ⟨m1, m2, m3, m4, m5, m6, m7, m8, m9, m10, m11⟩ := g3.mS.mI hm
  have loop : ∀ j, j ≤ c → z_V K 15 [(0, .ref 17), (1, .int (nI l)), (2, .int (nI c)), (3, .int (nI (s_rowsAt s l j).length)), (4, .int (nI j))] [] (z_s nl) I' J' 0 0 := by
    refine z_for c ?_ (fun j hj ih => ?_)
    · refine v_iload E dX4_isNewFor_15 rfl ?_
      refine v_iload_n E dX4_isNewFor_17 rfl ?_
      refine v_icmp_geN (tgt := 41) E dX4_isNewFor_18 (by decide) (by omega) (by omega) (fun c2 => ?_) (fun c2 => ?_)
      · have hk : (s_rowsAt s l c).length < (s_rows s l).length := hn.1
        have hk2 : (s_rows s l).length ≤ 52 := by
          show (s_rowsAt s l (s_nc s)).length ≤ 52
          omega
        refine v_aload_n E dX4_isNewFor_41 rfl ?_
        refine v_getR E f_X4_49 dX4_isNewFor_42 rfl rfl rfl ?_
        refine v_iload_n E dX4_isNewFor_45 rfl ?_
        refine v_baloadE E dX4_isNewFor_46 rfl rfl (by omega) (by decide) (g1.2.2 _ hk).2 ?_
        exact v_zret E X dX4_isNewFor_47 (q_b01 _) (mR.e (by rw [show s_rows s l = s_rowsAt s l (s_nc s) from rfl, hn.2]) g3.mS)
      · exact absurd c2 (by omega)
    · have hb1 : s_hb s j < 1024 := p2_10 w2 (w8 j (by omega)).2.2
      refine v_iload E dX4_isNewFor_15 rfl ?_
      refine v_iload_n E dX4_isNewFor_17 rfl ?_
      refine v_icmp_geN (tgt := 41) E dX4_isNewFor_18 (by decide) (by omega) (by omega) (fun c2 => ?_) (fun c2 => ?_)
      · exact absurd c2 (by omega)
      · refine v_iload_n E dX4_isNewFor_21 rfl ?_
        refine v_aload_n E dX4_isNewFor_22 rfl ?_
        refine v_getR E f_X4_43 dX4_isNewFor_23 rfl rfl rfl ?_
        refine v_iload E dX4_isNewFor_26 rfl ?_
        refine v_ialoadE E dX4_isNewFor_28 rfl rfl (by omega) (by decide) (m11 j (by omega)) ?_
        refine v_iload_n E dX4_isNewFor_29 rfl ?_
        refine v_ishrN E dX4_isNewFor_30 (by omega) (by omega) ?_
        refine v_iconst (v := nI 1) E dX4_isNewFor_31 (by decide) ?_
        refine v_iandN E dX4_isNewFor_32 ?_
        refine v_tb ?_
        refine v_iaddN E dX4_isNewFor_33 ?_
        refine v_istore_n E dX4_isNewFor_34 (by decide) ?_
        refine v_inc E dX4_isNewFor_35 rfl (by decide) ?_
        refine v_goto (tgt := 15) E dX4_isNewFor_38 (by decide) ?_
        rw [r_lenS] at ih
        exact ih
  have e0 : (s_rowsAt s l 0).length = s_hm s l := r_has_len _ _
  have l0 := loop 0 (by omega)
  rw [e0] at l0
  refine v_aload_n E dX4_isNewFor_5 rfl ?_
  refine v_getR E f_X4_30 dX4_isNewFor_6 rfl rfl rfl ?_
  refine v_iload_n E dX4_isNewFor_9 rfl ?_
  refine v_ialoadE E dX4_isNewFor_10 rfl rfl (by omega) (by decide) (m7 l (by omega)) ?_
  refine v_istore_n E dX4_isNewFor_11 (by decide) ?_
  refine v_iconst (v := nI 0) E dX4_isNewFor_12 (by decide) ?_
  refine v_istore E dX4_isNewFor_13 (by decide) ?_
  exact l0
theorem mm_call (d nl : Nat) (s : zS) (hw : s_wf s) (I : zI) (J : zJ) (hm : mI s I J) (x y : Int32) : z_C yX4_call cX4_call 5 (some .int) (d + 3) [.ref 17, .int x, .int y] (z_s nl) I J 0 0 (mR (.int (r_call2 s x y)) nl I J) := by
  have hm0 := hm
  have hw0 := hw
  obtain ⟨m1, m2, m3, m4, m5, m6, m7, m8, m9, m10, m11⟩ := hm
  obtain ⟨w1, w2, w3, w4, w5, w6, w7, w8, w9, w10⟩ := hw
  refine z_C.of (by decide) (Nat.le_of_ble_eq_true rfl) fun K E X => ?_
  refine v_aload_n E dX4_call_0 rfl ?_
  refine v_iload_n E dX4_call_1 rfl ?_
  refine v_callV1 E dX4_call_2 k_X4_109 Y_X4_isCall (mm_isCall (d + 2) nl I J m3 x) rfl rfl rfl (Nat.le_of_ble_eq_true rfl) ?_
  refine v_if_neB (tgt := 10) E dX4_call_5 (by decide)  (fun e1 => ?_) (fun e1 => ?_)
  · have e3 := e1
    obtain ⟨c, hc, rfl⟩ := z_isx_true (by omega) e1
    have hb := (w8 c hc).2.2
    have hb1 : s_hb s c < 1024 := p2_10 w2 hb
    refine v_iconst (v := nI 0) E dX4_call_10 (by decide) ?_
    refine v_istore_n E dX4_call_11 (by decide) ?_
    refine v_iload_n E dX4_call_12 rfl ?_
    have e4 : r_call2 s (nI c) y = if z_isx y 3 then r_callN s c y.toNatClampNeg else -1 := by
      unfold r_call2
      rw [e3, nI_clamp (by omega)]
      rfl
    cases e2 : z_isx y 3 with
    | false =>
      refine v_tableOut (tgt := 134) E dX4_call_13 (by have := z_out (by decide) e2; omega) (by decide) ?_
      refine v_iconst (v := -1) E dX4_call_134 (by decide) ?_
      exact v_iret E X dX4_call_135 (mR.e (by rw [e4, e2]; rfl) (mS.rf I))
    | true =>
      have e5 := e2
      obtain ⟨w, hw1, rfl⟩ := z_isx_true (by decide) e2
      rcases (show w = 0 ∨ w = 1 ∨ w = 2 by omega) with rfl | rfl | rfl
      · refine v_tableIn (off := 27) (tgt := 40) E dX4_call_13 (by decide) (by decide) (by decide) (by decide) ?_
        refine v_aload_n E dX4_call_40 rfl ?_
        refine v_getR E f_X4_40 dX4_call_41 rfl rfl rfl ?_
        refine v_iload_n E dX4_call_44 rfl ?_
        refine v_ialoadE E dX4_call_45 rfl rfl (by omega) (by decide) (m10 c hc) ?_
        exact v_iret E X dX4_call_46 (mR.e (by rw [e4, e5]; rfl) (mS.rf I))
      · refine v_tableIn (off := 34) (tgt := 47) E dX4_call_13 (by decide) (by decide) (by decide) (by decide) ?_
        refine v_iconst (v := nI 0) E dX4_call_47 (by decide) ?_
        refine v_istore E dX4_call_48 (by decide) ?_
        have hh : s_hear s c = l_cnt (fun l => (s_hb s c).testBit l) (s_nl s) := l_cnt_more0 w2 (fun j h1 h2 => q_hi hb h1)
        have loop : ∀ k, k ≤ s_nl s → z_V K 50 [(0, .ref 17), (1, .int (nI c)), (2, .int (nI 1)), (3, .int (nI (l_cnt (fun l => (s_hb s c).testBit l) k))), (4, .int (nI k))] [] (z_s nl) I J 0 0 := by
          refine z_for (s_nl s) ?_ (fun k hk ih => ?_)
          · refine v_iload E dX4_call_50 rfl ?_
            refine v_aload_n E dX4_call_52 rfl ?_
            refine v_getIE E f_X4_13 dX4_call_53 rfl rfl m2 ?_
            refine v_icmp_geN (tgt := 79) E dX4_call_56 (by decide) (by omega) (by omega) (fun c2 => ?_) (fun c2 => ?_)
            · refine v_iload_n E dX4_call_79 rfl ?_
              exact v_iret E X dX4_call_80 (mR.e (by rw [e4, e5, ← hh]; rfl) (mS.rf I))
            · exact absurd c2 (by omega)
          · refine v_iload E dX4_call_50 rfl ?_
            refine v_aload_n E dX4_call_52 rfl ?_
            refine v_getIE E f_X4_13 dX4_call_53 rfl rfl m2 ?_
            refine v_icmp_geN (tgt := 79) E dX4_call_56 (by decide) (by omega) (by omega) (fun c2 => ?_) (fun c2 => ?_)
            · exact absurd c2 (by omega)
            · refine v_iload_n E dX4_call_59 rfl ?_
              refine v_aload_n E dX4_call_60 rfl ?_
              refine v_getR E f_X4_43 dX4_call_61 rfl rfl rfl ?_
              refine v_iload_n E dX4_call_64 rfl ?_
              refine v_ialoadE E dX4_call_65 rfl rfl (by omega) (by decide) (m11 c hc) ?_
              refine v_iload E dX4_call_66 rfl ?_
              refine v_ishrN E dX4_call_68 (by omega) (by omega) ?_
              refine v_iconst (v := nI 1) E dX4_call_69 (by decide) ?_
              refine v_iandN E dX4_call_70 ?_
              refine v_tb ?_
              refine v_iaddN E dX4_call_71 ?_
              refine v_istore_n E dX4_call_72 (by decide) ?_
              refine v_inc E dX4_call_73 rfl (by decide) ?_
              refine v_goto (tgt := 50) E dX4_call_76 (by decide) ?_
              exact ih
        exact loop 0 (by omega)
      · refine v_tableIn (off := 68) (tgt := 81) E dX4_call_13 (by decide) (by decide) (by decide) (by decide) ?_
        refine v_iconst (v := nI 0) E dX4_call_81 (by decide) ?_
        refine v_istore E dX4_call_82 (by decide) ?_
        have hh : s_newc s c = l_cnt (fun l => (s_hb s c).testBit l && !l_sp (s_rowsAt s l c) (s_cm s c)) (s_nl s) := l_cnt_more0 w2 (fun j h1 h2 => by rw [q_hi hb h1]; rfl)
        have loop : ∀ k, k ≤ s_nl s → ∀ I', mS I I' → z_V K 84 [(0, .ref 17), (1, .int (nI c)), (2, .int (nI 2)), (3, .int (nI (l_cnt (fun l => (s_hb s c).testBit l && !l_sp (s_rowsAt s l c) (s_cm s c)) k))), (4, .int (nI k))] [] (z_s nl) I' J 0 0 := by
          refine z_for (s_nl s) ?_ (fun k hk ih => ?_)
          · intro I' hS
            obtain ⟨m1, m2, m3, m4, m5, m6, m7, m8, m9, m10, m11⟩ := hS.mI hm0
            refine v_iload E dX4_call_84 rfl ?_
            refine v_aload_n E dX4_call_86 rfl ?_
            refine v_getIE E f_X4_13 dX4_call_87 rfl rfl m2 ?_
            refine v_icmp_geN (tgt := 132) E dX4_call_90 (by decide) (by omega) (by omega) (fun c2 => ?_) (fun c2 => ?_)
            · refine v_iload_n E dX4_call_132 rfl ?_
              exact v_iret E X dX4_call_133 (mR.e (by rw [e4, e5, ← hh]; rfl) hS)
            · exact absurd c2 (by omega)
          · intro I' hS
            have hmi := hS.mI hm0
            obtain ⟨m1, m2, m3, m4, m5, m6, m7, m8, m9, m10, m11⟩ := hmi
            refine v_iload E dX4_call_84 rfl ?_
            refine v_aload_n E dX4_call_86 rfl ?_
            refine v_getIE E f_X4_13 dX4_call_87 rfl rfl m2 ?_
            refine v_icmp_geN (tgt := 132) E dX4_call_90 (by decide) (by omega) (by omega) (fun c2 => ?_) (fun c2 => ?_)
            · exact absurd c2 (by omega)
            · have fin : ∀ b : Bool, b = ((s_hb s c).testBit k && !l_sp (s_rowsAt s k c) (s_cm s c)) → ∀ I2, mS I I2 → z_V K 124 [(0, .ref 17), (1, .int (nI c)), (2, .int (nI 2)), (3, .int (nI (l_cnt (fun l => (s_hb s c).testBit l && !l_sp (s_rowsAt s l c) (s_cm s c)) k))), (4, .int (nI k))] [.int (nI b.toNat), .int (nI (l_cnt (fun l => (s_hb s c).testBit l && !l_sp (s_rowsAt s l c) (s_cm s c)) k))] (z_s nl) I2 J 0 0 := by
                rintro b rfl I2 hS2
                refine v_iaddN E dX4_call_124 ?_
                refine v_istore_n E dX4_call_125 (by decide) ?_
                refine v_inc E dX4_call_126 rfl (by decide) ?_
                refine v_goto (tgt := 84) E dX4_call_129 (by decide) ?_
                exact ih I2 hS2
              refine v_iload_n E dX4_call_93 rfl ?_
              refine v_aload_n E dX4_call_94 rfl ?_
              refine v_getR E f_X4_43 dX4_call_95 rfl rfl rfl ?_
              refine v_iload_n E dX4_call_98 rfl ?_
              refine v_ialoadE E dX4_call_99 rfl rfl (by omega) (by decide) (m11 c hc) ?_
              refine v_iload E dX4_call_100 rfl ?_
              refine v_ishrN E dX4_call_102 (by omega) (by omega) ?_
              refine v_iconst (v := nI 1) E dX4_call_103 (by decide) ?_
              refine v_iandN E dX4_call_104 ?_
              refine v_tb ?_
              refine v_iconst (v := nI 1) E dX4_call_105 (by decide) ?_
              refine v_icmp_neB (tgt := 123) E dX4_call_106 (by decide)  (fun c3 => ?_) (fun c3 => ?_)
              · refine v_iconst (v := nI 0) E dX4_call_123 (by decide) ?_
                exact fin false (by rw [c3]; rfl) I' hS
              · refine v_aload_n E dX4_call_109 rfl ?_
                refine v_iload E dX4_call_110 rfl ?_
                refine v_iload_n E dX4_call_112 rfl ?_
                refine v_callV E dX4_call_113 k_X4_127 Y_X4_isNewFor (mm_isNewFor d nl s hw0 I' J (hS.mI hm0) k hk c hc c3) rfl rfl rfl (Nat.le_of_ble_eq_true rfl) ?_
                rintro r h' I2 J2 ⟨rfl, rfl, g1, rfl⟩
                refine v_if_eqB (tgt := 123) E dX4_call_116 (by decide)  (fun c4 => ?_) (fun c4 => ?_)
                · refine v_iconst (v := nI 0) E dX4_call_123 (by decide) ?_
                  exact fin false (by rw [c3, c4]; rfl) I2 (hS.tr g1)
                · refine v_iconst (v := nI 1) E dX4_call_119 (by decide) ?_
                  refine v_goto (tgt := 124) E dX4_call_120 (by decide) ?_
                  exact fin true (by rw [c3, c4]; rfl) I2 (hS.tr g1)
        exact loop 0 (by omega) I (mS.rf I)
  · refine v_iconst (v := -1) E dX4_call_8 (by decide) ?_
    exact v_iret E X dX4_call_9 (mR.e (by unfold r_call2; rw [e1]; rfl) (mS.rf I))
theorem mm_about (d nl : Nat) (s : zS) (hw : s_wf s) (I : zI) (J : zJ) (hm : mI s I J) (x y : Int32) : z_C yX4_about cX4_about 3 (some .int) (d + 2) [.ref 17, .int x, .int y] (z_s nl) I J 0 0 (mR (.int (r_about s x y)) nl I J) := by
  have hm0 := hm
  have w2 := hw.2.1
  refine z_C.of (by decide) (Nat.le_of_ble_eq_true rfl) fun K E X => ?_
  refine v_aload_n E dX4_about_0 rfl ?_
  refine v_iload_n E dX4_about_1 rfl ?_
  refine v_callV1 E dX4_about_2 k_X4_92 Y_X4_isListener (mm_isListener (d + 1) nl I J hm.2.1 x) rfl rfl rfl (Nat.le_of_ble_eq_true rfl) ?_
  refine v_if_neB (tgt := 10) E dX4_about_5 (by decide)  (fun e1 => ?_) (fun e1 => ?_)
  · have f1 := e1
    obtain ⟨l, hl, rfl⟩ := z_isx_true (by omega) e1
    have hr : r_about s (nI l) y = if z_isx y 8 then r_aboutN s l y.toNatClampNeg else -1 := by
      unfold r_about
      rw [f1, nI_clamp (by omega)]
      rfl
    refine v_aload_n E dX4_about_10 rfl ?_
    refine v_iload_n E dX4_about_11 rfl ?_
    refine v_callV E dX4_about_12 k_X4_120 Y_X4_know (mm_know d nl s hw I J hm l hl) rfl rfl rfl (Nat.le_of_ble_eq_true rfl) ?_
    rintro r h' I' J' ⟨rfl, rfl, g1, g2, g3, rfl⟩
    have hS := g3.mS
    have hmi := hS.mI hm0
    obtain ⟨m1, m2, m3, m4, m5, m6, m7, m8, m9, m10, m11⟩ := hmi
    refine v_iload_n E dX4_about_15 rfl ?_
    cases e2 : z_isx y 8 with
    | false =>
      refine v_tableOut (tgt := 135) E dX4_about_16 (by have := z_out (by decide) e2; omega) (by decide) ?_
      refine v_iconst (v := -1) E dX4_about_135 (by decide) ?_
      exact v_iret E X dX4_about_136 (mR.e (by rw [hr, e2]; rfl) hS)
    | true =>
      have f2 := e2
      obtain ⟨w, hw1, rfl⟩ := z_isx_true (by decide) e2
      rcases (show w = 0 ∨ w = 1 ∨ w = 2 ∨ w = 3 ∨ w = 4 ∨ w = 5 ∨ w = 6 ∨ w = 7 by omega) with rfl | rfl | rfl | rfl | rfl | rfl | rfl | rfl
      · refine v_tableIn (off := 48) (tgt := 64) E dX4_about_16 (by decide) (by decide) (by decide) (by decide) ?_
        refine v_aload_n E dX4_about_64 rfl ?_
        refine v_getR E f_X4_23 dX4_about_65 rfl rfl rfl ?_
        refine v_iload_n E dX4_about_68 rfl ?_
        refine v_ialoadE E dX4_about_69 rfl rfl (by omega) (by decide) (m5 l hl) ?_
        exact v_iret E X dX4_about_70 (mR.e (by rw [hr, f2]; rfl) hS)
      · refine v_tableIn (off := 55) (tgt := 71) E dX4_about_16 (by decide) (by decide) (by decide) (by decide) ?_
        refine v_aload_n E dX4_about_71 rfl ?_
        refine v_getR E f_X4_30 dX4_about_72 rfl rfl rfl ?_
        refine v_iload_n E dX4_about_75 rfl ?_
        refine v_ialoadE E dX4_about_76 rfl rfl (by omega) (by decide) (m7 l (by omega)) ?_
        exact v_iret E X dX4_about_77 (mR.e (by rw [hr, f2]; rfl) hS)
      · refine v_tableIn (off := 62) (tgt := 78) E dX4_about_16 (by decide) (by decide) (by decide) (by decide) ?_
        refine v_aload_n E dX4_about_78 rfl ?_
        refine v_getIE E f_X4_52 dX4_about_79 rfl rfl g1.1 ?_
        exact v_iret E X dX4_about_82 (mR.e (by rw [hr, f2]; rfl) hS)
      · refine v_tableIn (off := 67) (tgt := 83) E dX4_about_16 (by decide) (by decide) (by decide) (by decide) ?_
        refine v_aload_n E dX4_about_83 rfl ?_
        refine v_getIE E f_X4_55 dX4_about_84 rfl rfl g1.2.1 ?_
        exact v_iret E X dX4_about_87 (mR.e (by rw [hr, f2]; rfl) hS)
      · refine v_tableIn (off := 72) (tgt := 88) E dX4_about_16 (by decide) (by decide) (by decide) (by decide) ?_
        refine v_aload_n E dX4_about_88 rfl ?_
        refine v_getIE E f_X4_7 dX4_about_89 rfl rfl m1 ?_
        refine v_aload_n E dX4_about_92 rfl ?_
        refine v_getIE E f_X4_55 dX4_about_93 rfl rfl g1.2.1 ?_
        refine v_isub E dX4_about_96 ?_
        exact v_iret E X dX4_about_97 (mR.e (by rw [hr, f2]; rfl) hS)
      · refine v_tableIn (off := 82) (tgt := 98) E dX4_about_16 (by decide) (by decide) (by decide) (by decide) ?_
        refine v_aload_n E dX4_about_98 rfl ?_
        refine v_getR E f_X4_27 dX4_about_99 rfl rfl rfl ?_
        refine v_iload_n E dX4_about_102 rfl ?_
        refine v_ialoadE E dX4_about_103 rfl rfl (by omega) (by decide) (m6 l (by omega)) ?_
        exact v_iret E X dX4_about_104 (mR.e (by rw [hr, f2]; rfl) hS)
      · refine v_tableIn (off := 89) (tgt := 105) E dX4_about_16 (by decide) (by decide) (by decide) (by decide) ?_
        refine v_aload_n E dX4_about_105 rfl ?_
        refine v_iload_n E dX4_about_106 rfl ?_
        refine v_iconst (v := nI 0) E dX4_about_107 (by decide) ?_
        refine v_callV1 E dX4_about_108 k_X4_130 Y_X4_isServed (mm_served0 d nl s hw I' J' (hS.mI hm0) l hl (s_rows s l) (s_rows_np hw l (Nat.le_refl _)) g2) rfl rfl rfl (Nat.le_of_ble_eq_true rfl) ?_
        have hv : nI (s_sv s l).toNat = r_about s (nI l) (nI 6) := by rw [hr, f2]; rfl
        change z_V K _ _ (.int (nI (s_sv s l).toNat) :: _) _ _ _ _ _
        refine v_if_eqB (tgt := 118) E dX4_about_111 (by decide)  (fun c => ?_) (fun c => ?_)
        · refine v_iconst (v := nI 0) E dX4_about_118 (by decide) ?_
          exact v_iret E X dX4_about_119 (mR.e (by rw [← hv, c]; rfl) hS)
        · refine v_iconst (v := nI 1) E dX4_about_114 (by decide) ?_
          refine v_goto (tgt := 119) E dX4_about_115 (by decide) ?_
          exact v_iret E X dX4_about_119 (mR.e (by rw [← hv, c]; rfl) hS)
      · refine v_tableIn (off := 104) (tgt := 120) E dX4_about_16 (by decide) (by decide) (by decide) (by decide) ?_
        refine v_aload_n E dX4_about_120 rfl ?_
        refine v_getR E f_X4_36 dX4_about_121 rfl rfl rfl ?_
        refine v_iload_n E dX4_about_124 rfl ?_
        refine v_baloadE E dX4_about_125 rfl rfl (by omega) (by decide) (m9 l (by omega)) ?_
        have hv : nI (s_of s l).toNat = r_about s (nI l) (nI 7) := by rw [hr, f2]; rfl
        refine v_if_eqB (tgt := 133) E dX4_about_126 (by decide)  (fun c => ?_) (fun c => ?_)
        · refine v_iconst (v := nI 0) E dX4_about_133 (by decide) ?_
          exact v_iret E X dX4_about_134 (mR.e (by rw [← hv, c]; rfl) hS)
        · refine v_iconst (v := nI 1) E dX4_about_129 (by decide) ?_
          refine v_goto (tgt := 134) E dX4_about_130 (by decide) ?_
          exact v_iret E X dX4_about_134 (mR.e (by rw [← hv, c]; rfl) hS)
  · refine v_iconst (v := -1) E dX4_about_8 (by decide) ?_
    exact v_iret E X dX4_about_9 (mR.e (by unfold r_about; rw [e1]; rfl) (mS.rf I))
theorem mm_rowOf (d nl : Nat) (s : zS) (hw : s_wf s) (I : zI) (J : zJ) (hm : mI s I J) (x y : Int32) : z_C yX4_rowOf cX4_rowOf 3 (some .int) (d + 2) [.ref 17, .int x, .int y] (z_s nl) I J 0 0 (mR (.int (r_rowOf s x y)) nl I J) := by
  have w2 := hw.2.1
  refine z_C.of (by decide) (Nat.le_of_ble_eq_true rfl) fun K E X => ?_
  refine v_aload_n E dX4_rowOf_0 rfl ?_
  refine v_iload_n E dX4_rowOf_1 rfl ?_
  refine v_callV1 E dX4_rowOf_2 k_X4_92 Y_X4_isListener (mm_isListener (d + 1) nl I J hm.2.1 x) rfl rfl rfl (Nat.le_of_ble_eq_true rfl) ?_
  refine v_if_neB (tgt := 10) E dX4_rowOf_5 (by decide)  (fun e1 => ?_) (fun e1 => ?_)
  · have f1 := e1
    obtain ⟨l, hl, rfl⟩ := z_isx_true (by omega) e1
    have hlen := s_rows_len hw l (s_nc s)
    have h12 := hw.2.2.2.2.2.1 l
    have w3 := hw.2.2.1
    have hk2 : (s_rows s l).length ≤ 52 := by
      show (s_rowsAt s l (s_nc s)).length ≤ 52
      omega
    have hr : r_rowOf s (nI l) y = if z_isx y (s_rows s l).length then nI (l_row (s_rows s l) y.toNatClampNeg) else -1 := by
      unfold r_rowOf
      rw [f1, nI_clamp (by omega)]
      rfl
    refine v_aload_n E dX4_rowOf_10 rfl ?_
    refine v_iload_n E dX4_rowOf_11 rfl ?_
    refine v_callV E dX4_rowOf_12 k_X4_120 Y_X4_know (mm_know d nl s hw I J hm l hl) rfl rfl rfl (Nat.le_of_ble_eq_true rfl) ?_
    rintro r h' I' J' ⟨rfl, rfl, g1, g2, g3, rfl⟩
    have hS := g3.mS
    have no : z_isx y (s_rows s l).length = false → z_V K 27 [(0, .ref 17), (1, .int (nI l)), (2, .int y)] [] (z_s nl) I' J' 0 0 := by
      intro e
      refine v_iconst (v := -1) E dX4_rowOf_27 (by decide) ?_
      refine v_goto (tgt := 37) E dX4_rowOf_28 (by decide) ?_
      exact v_iret E X dX4_rowOf_37 (mR.e (by rw [hr, e]; rfl) hS)
    refine v_iload_n E dX4_rowOf_15 rfl ?_
    refine v_if_lt (tgt := 27) E dX4_rowOf_16 (by decide)  (fun c => ?_) (fun c => ?_)
    · exact no (decide_eq_false (fun z => z.1 c))
    · refine v_iload_n E dX4_rowOf_19 rfl ?_
      refine v_aload_n E dX4_rowOf_20 rfl ?_
      refine v_getIE E f_X4_52 dX4_rowOf_21 rfl rfl g1.1 ?_
      refine v_icmp_lt (tgt := 31) E dX4_rowOf_24 (by decide)  (fun c1 => ?_) (fun c1 => ?_)
      · have e : z_isx y (s_rows s l).length = true := decide_eq_true ⟨c, c1⟩
        have f := e
        obtain ⟨k, hk, rfl⟩ := z_isx_true (by omega) e
        refine v_aload_n E dX4_rowOf_31 rfl ?_
        refine v_getR E f_X4_46 dX4_rowOf_32 rfl rfl rfl ?_
        refine v_iload_n E dX4_rowOf_35 rfl ?_
        refine v_ialoadE E dX4_rowOf_36 rfl rfl (by omega) (by decide) (g1.2.2 k hk).1 ?_
        exact v_iret E X dX4_rowOf_37 (mR.e (by rw [hr, f, nI_clamp (by omega)]; rfl) hS)
      · exact no (decide_eq_false (fun z => c1 z.2))
  · refine v_iconst (v := -1) E dX4_rowOf_8 (by decide) ?_
    exact v_iret E X dX4_rowOf_9 (mR.e (by unfold r_rowOf; rw [e1]; rfl) (mS.rf I))
theorem mm_solve (d nl : Nat) (s : zS) (hw : s_wf s) (I : zI) (J : zJ) (hm : mI s I J) (x y : Int32) : z_C yX4_solve cX4_solve 3 (some .int) (d + 2) [.ref 17, .int x, .int y] (z_s nl) I J 0 0 (mR (.int (r_solve s x y)) nl I J) := by
  have w1 := hw.1
  have w2 := hw.2.1
  refine z_C.of (by decide) (Nat.le_of_ble_eq_true rfl) fun K E X => ?_
  have no : (z_isx x (s_nl s) && z_isx y (s_np s)) = false → z_V K 16 [(0, .ref 17), (1, .int x), (2, .int y)] [] (z_s nl) I J 0 0 := by
    intro e
    refine v_iconst (v := -1) E dX4_solve_16 (by decide) ?_
    exact v_iret E X dX4_solve_17 (mR.e (by unfold r_solve; rw [e]; rfl) (mS.rf I))
  refine v_aload_n E dX4_solve_0 rfl ?_
  refine v_iload_n E dX4_solve_1 rfl ?_
  refine v_callV1 E dX4_solve_2 k_X4_92 Y_X4_isListener (mm_isListener (d + 1) nl I J hm.2.1 x) rfl rfl rfl (Nat.le_of_ble_eq_true rfl) ?_
  refine v_if_eqB (tgt := 16) E dX4_solve_5 (by decide)  (fun e1 => ?_) (fun e1 => ?_)
  · exact no (by rw [e1]; rfl)
  · refine v_aload_n E dX4_solve_8 rfl ?_
    refine v_iload_n E dX4_solve_9 rfl ?_
    refine v_callV1 E dX4_solve_10 k_X4_88 Y_X4_isPiece (mm_isPiece (d + 1) nl I J hm.1 y) rfl rfl rfl (Nat.le_of_ble_eq_true rfl) ?_
    refine v_if_neB (tgt := 18) E dX4_solve_13 (by decide)  (fun e2 => ?_) (fun e2 => ?_)
    · have f1 := e1
      have f2 := e2
      obtain ⟨l, hl, rfl⟩ := z_isx_true (by omega) e1
      obtain ⟨p, hp, rfl⟩ := z_isx_true (by omega) e2
      have hv : nI (s_out s l p).toNat = r_solve s (nI l) (nI p) := by
        unfold r_solve
        rw [f1, f2, nI_clamp (by omega), nI_clamp (by omega)]
        rfl
      have hpp : 2 ^ p < 1024 := p2_10 w1 (Nat.pow_lt_pow_right (by decide) hp)
      refine v_aload_n E dX4_solve_18 rfl ?_
      refine v_iload_n E dX4_solve_19 rfl ?_
      refine v_callV E dX4_solve_20 k_X4_120 Y_X4_know (mm_know d nl s hw I J hm l hl) rfl rfl rfl (Nat.le_of_ble_eq_true rfl) ?_
      rintro r h' I' J' ⟨rfl, rfl, g1, g2, g3, rfl⟩
      refine v_aload_n E dX4_solve_23 rfl ?_
      refine v_iload_n E dX4_solve_24 rfl ?_
      refine v_iconst (v := nI 1) E dX4_solve_25 (by decide) ?_
      refine v_iload_n E dX4_solve_26 rfl ?_
      refine v_ishlN E dX4_solve_27 (by omega) ?_
      refine v_p2 ?_
      refine v_callV1 E dX4_solve_28 k_X4_124 Y_X4_isOut (mm_isOut (d + 1) nl I' J' l (by omega) g2 (2 ^ p) hpp) rfl rfl rfl (Nat.le_of_ble_eq_true rfl) ?_
      change z_V K _ _ (.int (nI (s_out s l p).toNat) :: _) _ _ _ _ _
      refine v_if_eqB (tgt := 38) E dX4_solve_31 (by decide)  (fun c => ?_) (fun c => ?_)
      · refine v_iconst (v := nI 0) E dX4_solve_38 (by decide) ?_
        exact v_iret E X dX4_solve_39 (mR.e (by rw [← hv, c]; rfl) g3.mS)
      · refine v_iconst (v := nI 1) E dX4_solve_34 (by decide) ?_
        refine v_goto (tgt := 39) E dX4_solve_35 (by decide) ?_
        exact v_iret E X dX4_solve_39 (mR.e (by rw [← hv, c]; rfl) g3.mS)
    · exact no (by rw [e1, e2]; rfl)
theorem mm_served (d nl : Nat) (s : zS) (hw : s_wf s) (I : zI) (J : zJ) (hm : mI s I J) : z_C yX4_served cX4_served 3 (some .int) (d + 3) [.ref 17] (z_s nl) I J 0 0 (mR (.int (nI (s_svn s))) nl I J) := by
  have w2 := hw.2.1
  refine z_C.of (by decide) (Nat.le_of_ble_eq_true rfl) fun K E X => ?_
  refine v_aload_n E dX4_served_0 rfl ?_
  refine v_callV E dX4_served_1 k_X4_141 Y_X4_knowAll (mm_knowAll d nl s hw I J hm) rfl rfl rfl (Nat.le_of_ble_eq_true rfl) ?_
  rintro r h' I' J' ⟨rfl, rfl, g1, hS, rfl⟩
  have hmi := hS.mI hm
  refine v_iconst (v := nI 0) E dX4_served_4 (by decide) ?_
  refine v_istore_n E dX4_served_5 (by decide) ?_
  refine v_iconst (v := nI 0) E dX4_served_6 (by decide) ?_
  refine v_istore_n E dX4_served_7 (by decide) ?_
  have loop : ∀ k, k ≤ s_nl s → z_V K 8 [(0, .ref 17), (1, .int (nI (l_cnt (s_sv s) k))), (2, .int (nI k))] [] (z_s nl) I' J' 0 0 := by
    refine z_for (s_nl s) ?_ (fun k hk ih => ?_)
    · refine v_iload_n E dX4_served_8 rfl ?_
      refine v_aload_n E dX4_served_9 rfl ?_
      refine v_getIE E f_X4_13 dX4_served_10 rfl rfl hmi.2.1 ?_
      refine v_icmp_geN (tgt := 39) E dX4_served_13 (by decide) (by omega) (by omega) (fun c => ?_) (fun c => ?_)
      · refine v_iload_n E dX4_served_39 rfl ?_
        exact v_iret E X dX4_served_40 (mR.e rfl hS)
      · exact absurd c (by omega)
    · refine v_iload_n E dX4_served_8 rfl ?_
      refine v_aload_n E dX4_served_9 rfl ?_
      refine v_getIE E f_X4_13 dX4_served_10 rfl rfl hmi.2.1 ?_
      refine v_icmp_geN (tgt := 39) E dX4_served_13 (by decide) (by omega) (by omega) (fun c => ?_) (fun c => ?_)
      · exact absurd c (by omega)
      · have fin : ∀ b : Bool, b = s_sv s k → z_V K 31 [(0, .ref 17), (1, .int (nI (l_cnt (s_sv s) k))), (2, .int (nI k))] [.int (nI b.toNat), .int (nI (l_cnt (s_sv s) k))] (z_s nl) I' J' 0 0 := by
          rintro b rfl
          refine v_iaddN E dX4_served_31 ?_
          refine v_istore_n E dX4_served_32 (by decide) ?_
          refine v_inc E dX4_served_33 rfl (by decide) ?_
          refine v_goto (tgt := 8) E dX4_served_36 (by decide) ?_
          exact ih
        refine v_iload_n E dX4_served_16 rfl ?_
        refine v_aload_n E dX4_served_17 rfl ?_
        refine v_iload_n E dX4_served_18 rfl ?_
        refine v_iconst (v := nI 0) E dX4_served_19 (by decide) ?_
        refine v_callV1 E dX4_served_20 k_X4_130 Y_X4_isServed (mm_served0 (d + 1) nl s hw I' J' hmi k hk (s_rows s k) (s_rows_np hw k (Nat.le_refl _)) (g1 k hk)) rfl rfl rfl (Nat.le_of_ble_eq_true rfl) ?_
        change z_V K _ _ (.int (nI (s_sv s k).toNat) :: _) _ _ _ _ _
        refine v_if_eqB (tgt := 30) E dX4_served_23 (by decide)  (fun c2 => ?_) (fun c2 => ?_)
        · refine v_iconst (v := nI 0) E dX4_served_30 (by decide) ?_
          exact fin false c2.symm
        · refine v_iconst (v := nI 1) E dX4_served_26 (by decide) ?_
          refine v_goto (tgt := 31) E dX4_served_27 (by decide) ?_
          exact fin true c2.symm
  exact loop 0 (by omega)
theorem mm_left (d nl : Nat) (s : zS) (hw : s_wf s) (I : zI) (J : zJ) (hm : mI s I J) : z_C yX4_left cX4_left 1 (some .int) (d + 4) [.ref 17] (z_s nl) I J 0 0 (mR (.int (r_left s)) nl I J) := by
  have hle : s_svn s ≤ s_nl s := l_cnt_le (s_sv s) (s_nl s)
  refine z_C.of (by decide) (Nat.le_of_ble_eq_true rfl) fun K E X => ?_
  refine v_aload_n E dX4_left_0 rfl ?_
  refine v_getIE E f_X4_13 dX4_left_1 rfl rfl hm.2.1 ?_
  refine v_aload_n E dX4_left_4 rfl ?_
  refine v_callV E dX4_left_5 k_X4_144 Y_X4_served (mm_served d nl s hw I J hm) rfl rfl rfl (Nat.le_of_ble_eq_true rfl) ?_
  rintro r h' I' J' ⟨rfl, rfl, hS, rfl⟩
  refine v_isubN E dX4_left_8 (by omega) ?_
  exact v_iret E X dX4_left_9 (mR.e rfl hS)
theorem mm_count (d nl : Nat) (s : zS) (hw : s_wf s) (I : zI) (J : zJ) (hm : mI s I J) (x : Int32) : z_C yX4_count cX4_count 4 (some .int) (d + 4) [.ref 17, .int x] (z_s nl) I J 0 0 (mR (.int (r_count s x)) nl I J) := by
  have w2 := hw.2.1
  refine z_C.of (by decide) (Nat.le_of_ble_eq_true rfl) fun K E X => ?_
  refine v_iconst (v := nI 0) E dX4_count_0 (by decide) ?_
  refine v_istore_n E dX4_count_1 (by decide) ?_
  refine v_iload_n E dX4_count_2 rfl ?_
  cases e2 : z_isx x 5 with
  | false =>
    refine v_tableOut (tgt := 86) E dX4_count_3 (by have := z_out (by decide) e2; omega) (by decide) ?_
    refine v_iconst (v := -1) E dX4_count_86 (by decide) ?_
    exact v_iret E X dX4_count_87 (mR.e (by unfold r_count; rw [e2]; rfl) (mS.rf I))
  | true =>
    have e5 := e2
    obtain ⟨w, hw1, rfl⟩ := z_isx_true (by decide) e2
    rcases (show w = 0 ∨ w = 1 ∨ w = 2 ∨ w = 3 ∨ w = 4 by omega) with rfl | rfl | rfl | rfl | rfl
    · refine v_tableIn (off := 33) (tgt := 36) E dX4_count_3 (by decide) (by decide) (by decide) (by decide) ?_
      refine v_aload_n E dX4_count_36 rfl ?_
      refine v_getIE E f_X4_7 dX4_count_37 rfl rfl hm.1 ?_
      exact v_iret E X dX4_count_40 (mR.e (by unfold r_count; rw [e5]; rfl) (mS.rf I))
    · refine v_tableIn (off := 38) (tgt := 41) E dX4_count_3 (by decide) (by decide) (by decide) (by decide) ?_
      refine v_aload_n E dX4_count_41 rfl ?_
      refine v_getIE E f_X4_13 dX4_count_42 rfl rfl hm.2.1 ?_
      exact v_iret E X dX4_count_45 (mR.e (by unfold r_count; rw [e5]; rfl) (mS.rf I))
    · refine v_tableIn (off := 43) (tgt := 46) E dX4_count_3 (by decide) (by decide) (by decide) (by decide) ?_
      refine v_aload_n E dX4_count_46 rfl ?_
      refine v_getIE E f_X4_16 dX4_count_47 rfl rfl hm.2.2.1 ?_
      exact v_iret E X dX4_count_50 (mR.e (by unfold r_count; rw [e5]; rfl) (mS.rf I))
    · refine v_tableIn (off := 48) (tgt := 51) E dX4_count_3 (by decide) (by decide) (by decide) (by decide) ?_
      refine v_aload_n E dX4_count_51 rfl ?_
      refine v_callV E dX4_count_52 k_X4_144 Y_X4_served (mm_served d nl s hw I J hm) rfl rfl rfl (Nat.le_of_ble_eq_true rfl) ?_
      rintro r h' I' J' ⟨rfl, rfl, hS, rfl⟩
      exact v_iret E X dX4_count_55 (mR.e (by unfold r_count; rw [e5]; rfl) hS)
    · refine v_tableIn (off := 53) (tgt := 56) E dX4_count_3 (by decide) (by decide) (by decide) (by decide) ?_
      refine v_iconst (v := nI 0) E dX4_count_56 (by decide) ?_
      refine v_istore_n E dX4_count_57 (by decide) ?_
      have loop : ∀ k, k ≤ s_nl s → ∀ I', mS I I' → z_V K 58 [(0, .ref 17), (1, .int (nI 4)), (2, .int (nI (l_add (fun l => l_rk (s_rows s l)) k))), (3, .int (nI k))] [] (z_s nl) I' J 0 0 := by
        refine z_for (s_nl s) ?_ (fun k hk ih => ?_)
        · intro I' hS
          have hmi := hS.mI hm
          refine v_iload_n E dX4_count_58 rfl ?_
          refine v_aload_n E dX4_count_59 rfl ?_
          refine v_getIE E f_X4_13 dX4_count_60 rfl rfl hmi.2.1 ?_
          refine v_icmp_geN (tgt := 84) E dX4_count_63 (by decide) (by omega) (by omega) (fun c => ?_) (fun c => ?_)
          · refine v_iload_n E dX4_count_84 rfl ?_
            exact v_iret E X dX4_count_85 (mR.e (by unfold r_count; rw [e5]; rfl) hS)
          · exact absurd c (by omega)
        · intro I' hS
          have hmi := hS.mI hm
          refine v_iload_n E dX4_count_58 rfl ?_
          refine v_aload_n E dX4_count_59 rfl ?_
          refine v_getIE E f_X4_13 dX4_count_60 rfl rfl hmi.2.1 ?_
          refine v_icmp_geN (tgt := 84) E dX4_count_63 (by decide) (by omega) (by omega) (fun c => ?_) (fun c => ?_)
          · exact absurd c (by omega)
          · refine v_aload_n E dX4_count_66 rfl ?_
            refine v_iload_n E dX4_count_67 rfl ?_
            refine v_callV E dX4_count_68 k_X4_120 Y_X4_know (mm_know (d + 2) nl s hw I' J hmi k hk) rfl rfl rfl (Nat.le_of_ble_eq_true rfl) ?_
            rintro r h' I2 J2 ⟨rfl, rfl, g1, g2, g3, rfl⟩
            refine v_iload_n E dX4_count_71 rfl ?_
            refine v_aload_n E dX4_count_72 rfl ?_
            refine v_getIE E f_X4_55 dX4_count_73 rfl rfl g1.2.1 ?_
            refine v_iaddN E dX4_count_76 ?_
            refine v_istore_n E dX4_count_77 (by decide) ?_
            refine v_inc E dX4_count_78 rfl (by decide) ?_
            refine v_goto (tgt := 58) E dX4_count_81 (by decide) ?_
            exact ih I2 (hS.tr g3.mS)
      exact loop 0 (by omega) I (mS.rf I)
theorem mm_isEven (d nl : Nat) (I : zI) (J : zJ) (M : Nat) (hM : M < 1024) : z_C yX4_isEven cX4_isEven 4 (some .boolean) d [.ref 17, .int (nI M)] (z_s nl) I J 0 0 (z_q (some (.int (nI (decide (q_pop M % 2 = 0)).toNat))) (z_s nl) I J) := by
  refine z_C.of (by decide) (Nat.le_of_ble_eq_true rfl) fun K E X => ?_
  refine v_iconst (v := nI 0) E dX4_isEven_0 (by decide) ?_
  refine v_istore_n E dX4_isEven_1 (by decide) ?_
  refine v_iload_n E dX4_isEven_2 rfl ?_
  refine v_istore_n E dX4_isEven_3 (by decide) ?_
  have loop : ∀ n m, m < 1024 → q_pop m = n → ∀ b : Bool, (b.toNat + n) % 2 = q_pop M % 2 → z_V K 4 [(0, .ref 17), (1, .int (nI M)), (2, .int (nI b.toNat)), (3, .int (nI m))] [] (z_s nl) I J 0 0 := by
    intro n
    induction n with
    | zero =>
      intro m hm hn b hb
      refine v_iload_n E dX4_isEven_4 rfl ?_
      refine v_if_eqN (tgt := 27) E dX4_isEven_5 (by decide) (by omega) (fun c => ?_) (fun c => ?_)
      · refine v_iload_n E dX4_isEven_27 rfl ?_
        refine v_if_neB (tgt := 35) E dX4_isEven_28 (by decide)  (fun c2 => ?_) (fun c2 => ?_)
        · subst c2
          refine v_iconst (v := nI 0) E dX4_isEven_35 (by decide) ?_
          exact v_zret E X dX4_isEven_36 (by first | exact Or.inl rfl | exact Or.inr rfl) (z_qi (by rw [decide_eq_false (by rw [← hb]; decide)]; rfl))
        · subst c2
          refine v_iconst (v := nI 1) E dX4_isEven_31 (by decide) ?_
          refine v_goto (tgt := 36) E dX4_isEven_32 (by decide) ?_
          exact v_zret E X dX4_isEven_36 (by first | exact Or.inl rfl | exact Or.inr rfl) (z_qi (by rw [decide_eq_true (by rw [← hb]; rfl)]; rfl))
      · have := (g_low_ok m hm c).2.2.2.2.1
        omega
    | succ n ih =>
      intro m hm hn b hb
      refine v_iload_n E dX4_isEven_4 rfl ?_
      refine v_if_eqN (tgt := 27) E dX4_isEven_5 (by decide) (by omega) (fun c => ?_) (fun c => ?_)
      · subst c
        have : q_pop 0 = 0 := by decide
        omega
      · obtain ⟨g1, g2, g3, g4, g5, g6, g7⟩ := g_low_ok m hm c
        have hlt : m &&& (m - 1) < 1024 := Nat.lt_of_le_of_lt Nat.and_le_left hm
        have hp : q_pop (m &&& (m - 1)) = n := by rw [g4]; omega
        refine v_iload_n E dX4_isEven_8 rfl ?_
        refine v_if_neB (tgt := 16) E dX4_isEven_9 (by decide)  (fun c2 => ?_) (fun c2 => ?_)
        · refine v_iconst (v := nI 0) E dX4_isEven_16 (by decide) ?_
          refine v_istore_n E dX4_isEven_17 (by decide) ?_
          refine v_iload_n E dX4_isEven_18 rfl ?_
          refine v_iload_n E dX4_isEven_19 rfl ?_
          refine v_iconst (v := nI 1) E dX4_isEven_20 (by decide) ?_
          refine v_isubN E dX4_isEven_21 (by omega) ?_
          refine v_iandN E dX4_isEven_22 ?_
          refine v_istore_n E dX4_isEven_23 (by decide) ?_
          refine v_goto (tgt := 4) E dX4_isEven_24 (by decide) ?_
          exact ih (m &&& (m - 1)) hlt hp false (by rw [c2] at hb; simp only [Bool.toNat_true, Bool.toNat_false] at hb ⊢; omega)
        · refine v_iconst (v := nI 1) E dX4_isEven_12 (by decide) ?_
          refine v_goto (tgt := 17) E dX4_isEven_13 (by decide) ?_
          refine v_istore_n E dX4_isEven_17 (by decide) ?_
          refine v_iload_n E dX4_isEven_18 rfl ?_
          refine v_iload_n E dX4_isEven_19 rfl ?_
          refine v_iconst (v := nI 1) E dX4_isEven_20 (by decide) ?_
          refine v_isubN E dX4_isEven_21 (by omega) ?_
          refine v_iandN E dX4_isEven_22 ?_
          refine v_istore_n E dX4_isEven_23 (by decide) ?_
          refine v_goto (tgt := 4) E dX4_isEven_24 (by decide) ?_
          exact ih (m &&& (m - 1)) hlt hp true (by rw [c2] at hb; simp only [Bool.toNat_true, Bool.toNat_false] at hb ⊢; omega)
  exact loop (q_pop M) M hM rfl false (by simp)
theorem mm_lack (d nl : Nat) (s : zS) (hw : s_wf s) (I : zI) (J : zJ) (hm : mI s I J) (x y : Int32) : z_C yX4_lack cX4_lack 6 (some .int) (d + 2) [.ref 17, .int x, .int y] (z_s nl) I J 0 0 (mR (.int (r_lack s x y)) nl I J) := by
  have w1 := hw.1
  have w2 := hw.2.1
  refine z_C.of (by decide) (Nat.le_of_ble_eq_true rfl) fun K E X => ?_
  have no : (z_isx x (s_nl s) && z_isx y (s_np s)) = false → z_V K 16 [(0, .ref 17), (1, .int x), (2, .int y)] [] (z_s nl) I J 0 0 := by
    intro e
    refine v_iconst (v := -1) E dX4_lack_16 (by decide) ?_
    exact v_iret E X dX4_lack_17 (mR.e (by
      unfold r_lack
      cases h1 : z_isx x (s_nl s) with
      | false => rfl
      | true =>
        rw [h1, Bool.true_and] at e
        rw [e]
        rfl) (mS.rf I))
  refine v_aload_n E dX4_lack_0 rfl ?_
  refine v_iload_n E dX4_lack_1 rfl ?_
  refine v_callV1 E dX4_lack_2 k_X4_92 Y_X4_isListener (mm_isListener (d + 1) nl I J hm.2.1 x) rfl rfl rfl (Nat.le_of_ble_eq_true rfl) ?_
  refine v_if_eqB (tgt := 16) E dX4_lack_5 (by decide)  (fun e1 => ?_) (fun e1 => ?_)
  · exact no (by rw [e1]; rfl)
  · refine v_aload_n E dX4_lack_8 rfl ?_
    refine v_iload_n E dX4_lack_9 rfl ?_
    refine v_callV1 E dX4_lack_10 k_X4_88 Y_X4_isPiece (mm_isPiece (d + 1) nl I J hm.1 y) rfl rfl rfl (Nat.le_of_ble_eq_true rfl) ?_
    refine v_if_neB (tgt := 18) E dX4_lack_13 (by decide)  (fun e2 => ?_) (fun e2 => ?_)
    · have f1 := e1
      have f2 := e2
      obtain ⟨l, hl, rfl⟩ := z_isx_true (by omega) e1
      obtain ⟨p, hp, rfl⟩ := z_isx_true (by omega) e2
      have hv : r_lack s (nI l) (nI p) = if !s_out s l p then q_find (q_lk (s_rows s l) p) (2 ^ s_np s - 1) 1 else -1 := by
        unfold r_lack
        rw [f1, f2, nI_clamp (by omega), nI_clamp (by omega)]
        rfl
      have hpp : 2 ^ p < 1024 := p2_10 w1 (Nat.pow_lt_pow_right (by decide) hp)
      have hp2 : 2 ^ s_np s ≤ 1024 := Nat.pow_le_pow_right (n := 2) (by decide) w1
      have hp0 := Nat.two_pow_pos (s_np s)
      have hlen := s_rows_len hw l (s_nc s)
      have h12 := hw.2.2.2.2.2.1 l
      have w3 := hw.2.2.1
      have hk2 : (s_rows s l).length ≤ 52 := by
        show (s_rowsAt s l (s_nc s)).length ≤ 52
        omega
      have hrl := l_row_lt (s_rows_1024 hw l (Nat.le_refl (s_nc s)))
      refine v_aload_n E dX4_lack_18 rfl ?_
      refine v_iload_n E dX4_lack_19 rfl ?_
      refine v_callV E dX4_lack_20 k_X4_120 Y_X4_know (mm_know d nl s hw I J hm l hl) rfl rfl rfl (Nat.le_of_ble_eq_true rfl) ?_
      rintro r h' I' J' ⟨rfl, rfl, g1, g2, g3, rfl⟩
      have hmi := g3.mS.mI hm
      refine v_aload_n E dX4_lack_23 rfl ?_
      refine v_iload_n E dX4_lack_24 rfl ?_
      refine v_iconst (v := nI 1) E dX4_lack_25 (by decide) ?_
      refine v_iload_n E dX4_lack_26 rfl ?_
      refine v_ishlN E dX4_lack_27 (by omega) ?_
      refine v_p2 ?_
      refine v_callV1 E dX4_lack_28 k_X4_124 Y_X4_isOut (mm_isOut (d + 1) nl I' J' l (by omega) g2 (2 ^ p) hpp) rfl rfl rfl (Nat.le_of_ble_eq_true rfl) ?_
      change z_V K _ _ (.int (nI (s_out s l p).toNat) :: _) _ _ _ _ _
      refine v_if_eqB (tgt := 36) E dX4_lack_31 (by decide)  (fun c => ?_) (fun c => ?_)
      · rw [c] at hv
        have hv : r_lack s (nI l) (nI p) = q_find (q_lk (s_rows s l) p) (2 ^ s_np s - 1) 1 := hv
        refine v_iconst (v := nI 1) E dX4_lack_36 (by decide) ?_
        refine v_istore_n E dX4_lack_37 (by decide) ?_
        have loop : ∀ k m, m + k = 2 ^ s_np s → q_find (q_lk (s_rows s l) p) k m = r_lack s (nI l) (nI p) → ∀ lr, (lr = [] ∨ ∃ a b, lr = [(4, .int a), (5, .int b)]) → z_V K 38 ([(0, .ref 17), (1, .int (nI l)), (2, .int (nI p)), (3, .int (nI m))] ++ lr) [] (z_s nl) I' J' 0 0 := by
          intro k
          induction k with
          | zero =>
            intro m hmk hq lr _
            refine v_ls (ls2 := [(0, .ref 17), (1, .int (nI l)), (2, .int (nI p)), (3, .int (nI m))]) (by intro q hq; simp only [List.mem_cons, List.not_mem_nil, or_false] at hq; rcases hq with rfl | rfl | rfl | rfl <;> rfl) ?_
            refine v_iload_n E dX4_lack_38 rfl ?_
            refine v_iconst (v := nI 1) E dX4_lack_39 (by decide) ?_
            refine v_aload_n E dX4_lack_40 rfl ?_
            refine v_getIE E f_X4_7 dX4_lack_41 rfl rfl hmi.1 ?_
            refine v_ishlN E dX4_lack_44 (by omega) ?_
            refine v_p2 ?_
            refine v_icmp_geN (tgt := 115) E dX4_lack_45 (by decide) (by omega) (by omega) (fun c2 => ?_) (fun c2 => ?_)
            · refine v_iconst (v := -1) E dX4_lack_115 (by decide) ?_
              exact v_iret E X dX4_lack_116 (mR.e (by rw [← hq]; rfl) g3.mS)
            · exact absurd c2 (by omega)
          | succ k ih =>
            intro m hmk hq lr _
            have hm1 : m < 1024 := by omega
            refine v_ls (ls2 := [(0, .ref 17), (1, .int (nI l)), (2, .int (nI p)), (3, .int (nI m))]) (by intro q hq; simp only [List.mem_cons, List.not_mem_nil, or_false] at hq; rcases hq with rfl | rfl | rfl | rfl <;> rfl) ?_
            refine v_iload_n E dX4_lack_38 rfl ?_
            refine v_iconst (v := nI 1) E dX4_lack_39 (by decide) ?_
            refine v_aload_n E dX4_lack_40 rfl ?_
            refine v_getIE E f_X4_7 dX4_lack_41 rfl rfl hmi.1 ?_
            refine v_ishlN E dX4_lack_44 (by omega) ?_
            refine v_p2 ?_
            refine v_icmp_geN (tgt := 115) E dX4_lack_45 (by decide) (by omega) (by omega) (fun c2 => ?_) (fun c2 => ?_)
            · exact absurd c2 (by omega)
            · simp only [q_find] at hq
              have out : ∀ (j : Nat) (b : Bool), b = q_lk (s_rows s l) p m → z_V K 102 [(0, .ref 17), (1, .int (nI l)), (2, .int (nI p)), (3, .int (nI m)), (4, .int (nI b.toNat)), (5, .int (nI j))] [] (z_s nl) I' J' 0 0 := by
                rintro j b hb
                refine v_iload E dX4_lack_102 rfl ?_
                refine v_if_eqB (tgt := 109) E dX4_lack_104 (by decide)  (fun c3 => ?_) (fun c3 => ?_)
                · rw [← hb, c3] at hq
                  refine v_inc E dX4_lack_109 rfl (by decide) ?_
                  refine v_goto (tgt := 38) E dX4_lack_112 (by decide) ?_
                  exact ih (m + 1) (by omega) hq _ (Or.inr ⟨_, _, rfl⟩)
                · rw [← hb, c3] at hq
                  refine v_iload_n E dX4_lack_107 rfl ?_
                  exact v_iret E X dX4_lack_108 (mR.e hq g3.mS)
              have inner : ∀ j, j ≤ (s_rows s l).length → ∀ b : Bool, b = (m.testBit p && decide (∀ i, i < j → q_pop (l_row (s_rows s l) i &&& m) % 2 = 0)) → z_V K 67 [(0, .ref 17), (1, .int (nI l)), (2, .int (nI p)), (3, .int (nI m)), (4, .int (nI b.toNat)), (5, .int (nI j))] [] (z_s nl) I' J' 0 0 := by
                refine z_for (s_rows s l).length ?_ (fun j hj ih2 => ?_)
                · intro b hb
                  refine v_iload E dX4_lack_67 rfl ?_
                  refine v_aload_n E dX4_lack_69 rfl ?_
                  refine v_getIE E f_X4_52 dX4_lack_70 rfl rfl g1.1 ?_
                  refine v_icmp_geN (tgt := 102) E dX4_lack_73 (by decide) (by omega) (by omega) (fun c3 => ?_) (fun c3 => ?_)
                  · exact out _ b hb
                  · exact absurd c3 (by omega)
                · intro b hb
                  refine v_iload E dX4_lack_67 rfl ?_
                  refine v_aload_n E dX4_lack_69 rfl ?_
                  refine v_getIE E f_X4_52 dX4_lack_70 rfl rfl g1.1 ?_
                  refine v_icmp_geN (tgt := 102) E dX4_lack_73 (by decide) (by omega) (by omega) (fun c3 => ?_) (fun c3 => ?_)
                  · exact absurd c3 (by omega)
                  · refine v_iload E dX4_lack_76 rfl ?_
                    refine v_if_eqB (tgt := 102) E dX4_lack_78 (by decide)  (fun c4 => ?_) (fun c4 => ?_)
                    · refine out j b ?_
                      rw [c4]
                      rw [c4] at hb
                      symm
                      unfold q_lk q_even
                      cases ht : m.testBit p with
                      | false => rfl
                      | true =>
                        rw [ht, Bool.true_and] at hb
                        rw [Bool.true_and]
                        exact decide_eq_false (fun z => of_decide_eq_false hb.symm (fun i hi => z i (by omega)))
                    · rw [c4] at hb
                      have hb := hb.symm
                      rw [Bool.and_eq_true, decide_eq_true_iff] at hb
                      have ha : m &&& l_row (s_rows s l) j < 1024 := Nat.lt_of_le_of_lt Nat.and_le_left hm1
                      refine v_aload_n E dX4_lack_81 rfl ?_
                      refine v_iload_n E dX4_lack_82 rfl ?_
                      refine v_aload_n E dX4_lack_83 rfl ?_
                      refine v_getR E f_X4_46 dX4_lack_84 rfl rfl rfl ?_
                      refine v_iload E dX4_lack_87 rfl ?_
                      refine v_ialoadE E dX4_lack_89 rfl rfl (by omega) (by decide) (g1.2.2 j hj).1 ?_
                      refine v_iandN E dX4_lack_90 ?_
                      refine v_callV1 E dX4_lack_91 k_X4_138 Y_X4_isEven (mm_isEven (d + 1) nl I' J' (m &&& l_row (s_rows s l) j) ha) rfl rfl rfl (Nat.le_of_ble_eq_true rfl) ?_
                      refine v_istore E dX4_lack_94 (by decide) ?_
                      refine v_inc E dX4_lack_96 rfl (by decide) ?_
                      refine v_goto (tgt := 67) E dX4_lack_99 (by decide) ?_
                      refine ih2 _ ?_
                      rw [hb.1, Bool.true_and, Nat.and_comm m]
                      apply decide_eq_decide.mpr
                      constructor
                      · intro z i hi
                        by_cases e : i = j
                        · subst e; exact z
                        · exact hb.2 i (by omega)
                      · intro z
                        exact z j (by omega)
              have start : ∀ b : Bool, b = m.testBit p → z_V K 62 [(0, .ref 17), (1, .int (nI l)), (2, .int (nI p)), (3, .int (nI m))] [.int (nI b.toNat)] (z_s nl) I' J' 0 0 := by
                intro b hb
                refine v_istore E dX4_lack_62 (by decide) ?_
                refine v_iconst (v := nI 0) E dX4_lack_64 (by decide) ?_
                refine v_istore E dX4_lack_65 (by decide) ?_
                exact inner 0 (by omega) b (by rw [hb, decide_eq_true (fun i hi => absurd hi (Nat.not_lt_zero i)), Bool.and_true])
              refine v_iload_n E dX4_lack_48 rfl ?_
              refine v_iload_n E dX4_lack_49 rfl ?_
              refine v_ishrN E dX4_lack_50 (by omega) (by omega) ?_
              refine v_iconst (v := nI 1) E dX4_lack_51 (by decide) ?_
              refine v_iandN E dX4_lack_52 ?_
              refine v_tb ?_
              refine v_iconst (v := nI 1) E dX4_lack_53 (by decide) ?_
              refine v_icmp_neB (tgt := 61) E dX4_lack_54 (by decide)  (fun c3 => ?_) (fun c3 => ?_)
              · refine v_iconst (v := nI 0) E dX4_lack_61 (by decide) ?_
                exact start false c3.symm
              · refine v_iconst (v := nI 1) E dX4_lack_57 (by decide) ?_
                refine v_goto (tgt := 62) E dX4_lack_58 (by decide) ?_
                exact start true c3.symm
        exact loop (2 ^ s_np s - 1) 1 (by omega) hv.symm [] (Or.inl rfl)
      · rw [c] at hv
        refine v_iconst (v := -1) E dX4_lack_34 (by decide) ?_
        exact v_iret E X dX4_lack_35 (mR.e hv.symm g3.mS)
    · exact no (by rw [e1, e2]; rfl)
