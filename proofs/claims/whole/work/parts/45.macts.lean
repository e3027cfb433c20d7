/-! THE MODEL: the acts -/
theorem z_ur {α : Type} {f : Nat → Nat → α} {a k b j : Nat} {v x : α} (h : b ≠ a) (e : f b j = x) : z_u f a k v b j = x := by rw [z_u_row h]; exact e
theorem z_uc {α : Type} {f : Nat → Nat → α} {a k j : Nat} {v x : α} (h : j ≠ k) (e : f a j = x) : z_u f a k v a j = x := by rw [z_u_col h]; exact e
theorem z_isx_le {x : Int32} {n : Nat} (hn : n + 1 < 2 ^ 31) : z_isx x (n + 1) = decide (¬ x < 0 ∧ x ≤ nI n) := by
  unfold z_isx
  apply decide_eq_decide.mpr
  rw [Int32.lt_iff_toInt_lt (x := x) (y := nI (n + 1)), Int32.le_iff_toInt_le (x := x) (y := nI n), nI_toInt hn, nI_toInt (by omega)]
  constructor
  · rintro ⟨h1, h2⟩
    exact ⟨h1, by omega⟩
  · rintro ⟨h1, h2⟩
    exact ⟨h1, by omega⟩
theorem mm_piece (d nl : Nat) (s : zS) (hw : s_wf s) (I : zI) (J : zJ) (hm : mI s I J) (v : Int64) : z_C yX4_piece cX4_piece 3 (some .int) d [.ref 17, .long v] (z_s nl) I J 0 0 (mQ (a_piece s v) nl I J) := by
  have hm0 := hm
  obtain ⟨m1, m2, m3, m4, m5, m6, m7, m8, m9, m10, m11⟩ := hm
  obtain ⟨w1, w2, w3, w4, w5, w6, w7, w8, w9, w10⟩ := hw
  refine z_C.of (by decide) (Nat.le_of_ble_eq_true rfl) fun K E X => ?_
  refine v_aload_n E dX4_piece_0 rfl ?_
  refine v_getIE E f_X4_16 dX4_piece_1 rfl rfl m3 ?_
  refine v_if_leN (tgt := 10) E dX4_piece_4 (by decide) (by omega) (fun e1 => ?_) (fun e1 => ?_)
  · refine v_aload_n E dX4_piece_10 rfl ?_
    refine v_getIE E f_X4_7 dX4_piece_11 rfl rfl m1 ?_
    refine v_bipush (v := nI 10) E dX4_piece_14 (by decide) ?_
    refine v_icmp_neN (tgt := 22) E dX4_piece_16 (by decide) (by omega) (by omega) (fun e2 => ?_) (fun e2 => ?_)
    · have ea : a_piece s v = (nI (s_np s), t_piece s v) := by unfold a_piece; rw [if_neg (by omega), if_neg (by omega)]
      rw [ea] at X
      refine v_aload_n E dX4_piece_22 rfl ?_
      refine v_getR E f_X4_19 dX4_piece_23 rfl rfl rfl ?_
      refine v_aload_n E dX4_piece_26 rfl ?_
      refine v_getIE E f_X4_7 dX4_piece_27 rfl rfl m1 ?_
      refine v_lload_n E dX4_piece_30 rfl ?_
      refine v_lastore E dX4_piece_31 rfl rfl (by omega) (by decide) ?_
      refine v_aload_n E dX4_piece_32 rfl ?_
      refine v_dup E dX4_piece_33 rfl ?_
      refine v_getIE E f_X4_7 dX4_piece_34 rfl rfl m1 ?_
      refine v_iconst (v := nI 1) E dX4_piece_37 (by decide) ?_
      refine v_iaddN E dX4_piece_38 ?_
      refine v_putI E f_X4_7 dX4_piece_39 rfl rfl rfl rfl (by decide) ?_
      refine v_aload_n E dX4_piece_42 rfl ?_
      refine v_getIE E f_X4_7 dX4_piece_43 rfl rfl z_u_same ?_
      refine v_iconst (v := nI 1) E dX4_piece_46 (by decide) ?_
      refine v_isubN E dX4_piece_47 (by omega) ?_
      refine v_iret E X dX4_piece_48 ⟨rfl, rfl, ?_, fun q hq => ⟨z_u_row (by omega), z_u_row (by omega)⟩⟩
      refine ⟨z_u_same, ?_, ?_, fun p hp => ?_, ?_, ?_, ?_, ?_, ?_, ?_, ?_⟩
      · rw [z_u_col (by decide)]; exact m2
      · rw [z_u_col (by decide)]; exact m3
      · show z_u J 18 (s_np s) v 18 p = va_up (s_pv s) (s_np s) v p
        have hp : p < s_np s + 1 := hp
        by_cases e : p = s_np s
        · subst e
          rw [z_u_same, u_up_same]
        · rw [z_u_col e, u_up_ne e]
          exact m4 p (by omega)
      · rw [z_u_row (by decide)]; exact m5
      · rw [z_u_row (by decide)]; exact m6
      · rw [z_u_row (by decide)]; exact m7
      · rw [z_u_row (by decide)]; exact m8
      · rw [z_u_row (by decide)]; exact m9
      · rw [z_u_row (by decide)]; exact m10
      · rw [z_u_row (by decide)]; exact m11
    · refine v_bipush (v := -4) E dX4_piece_19 (by decide) ?_
      exact v_iret E X dX4_piece_21 (mQ.same (by unfold a_piece; rw [if_neg (by omega), if_pos (by omega)]) hm0)
  · refine v_bipush (v := -5) E dX4_piece_7 (by decide) ?_
    exact v_iret E X dX4_piece_9 (mQ.same (by unfold a_piece; rw [if_pos (by omega)]) hm0)
theorem mm_listener (d nl : Nat) (s : zS) (hw : s_wf s) (I : zI) (J : zJ) (hm : mI s I J) (x : Int32) : z_C yX4_listener cX4_listener 2 (some .int) d [.ref 17, .int x] (z_s nl) I J 0 0 (mQ (a_listener s x) nl I J) := by
  have hm0 := hm
  obtain ⟨m1, m2, m3, m4, m5, m6, m7, m8, m9, m10, m11⟩ := hm
  obtain ⟨w1, w2, w3, w4, w5, w6, w7, w8, w9, w10⟩ := hw
  have hx := z_isx_le (x := x) (n := 4) (by decide)
  refine z_C.of (by decide) (Nat.le_of_ble_eq_true rfl) fun K E X => ?_
  have bad : z_isx x 5 = false → z_V K 9 [(0, .ref 17), (1, .int x)] [] (z_s nl) I J 0 0 := by
    intro e
    refine v_bipush (v := -2) E dX4_listener_9 (by decide) ?_
    exact v_iret E X dX4_listener_11 (mQ.same (by unfold a_listener; rw [e]; rfl) hm0)
  refine v_iload_n E dX4_listener_0 rfl ?_
  refine v_if_lt (tgt := 9) E dX4_listener_1 (by decide)  (fun c => ?_) (fun c => ?_)
  · exact bad (by rw [hx]; exact decide_eq_false (fun z => z.1 c))
  · refine v_iload_n E dX4_listener_4 rfl ?_
    refine v_iconst (v := nI 4) E dX4_listener_5 (by decide) ?_
    refine v_icmp_le (tgt := 12) E dX4_listener_6 (by decide)  (fun c1 => ?_) (fun c1 => ?_)
    · have e : z_isx x 5 = true := by rw [hx]; exact decide_eq_true ⟨c, c1⟩
      have f := e
      obtain ⟨k, hk, rfl⟩ := z_isx_true (by omega) e
      refine v_aload_n E dX4_listener_12 rfl ?_
      refine v_getIE E f_X4_13 dX4_listener_13 rfl rfl m2 ?_
      refine v_bipush (v := nI 10) E dX4_listener_16 (by decide) ?_
      refine v_icmp_neN (tgt := 24) E dX4_listener_18 (by decide) (by omega) (by omega) (fun e2 => ?_) (fun e2 => ?_)
      · have ea : a_listener s (nI k) = (nI (s_nl s), t_listener s k) := by unfold a_listener; rw [f, if_pos rfl, if_neg (by omega), nI_clamp (by omega)]
        rw [ea] at X
        refine v_aload_n E dX4_listener_24 rfl ?_
        refine v_getR E f_X4_23 dX4_listener_25 rfl rfl rfl ?_
        refine v_aload_n E dX4_listener_28 rfl ?_
        refine v_getIE E f_X4_13 dX4_listener_29 rfl rfl m2 ?_
        refine v_iload_n E dX4_listener_32 rfl ?_
        refine v_iastore E dX4_listener_33 rfl rfl (by omega) (by decide) ?_
        refine v_aload_n E dX4_listener_34 rfl ?_
        refine v_dup E dX4_listener_35 rfl ?_
        refine v_getIE E f_X4_13 dX4_listener_36 rfl rfl (z_ur (by decide) (m2)) ?_
        refine v_iconst (v := nI 1) E dX4_listener_39 (by decide) ?_
        refine v_iaddN E dX4_listener_40 ?_
        refine v_putI E f_X4_13 dX4_listener_41 rfl rfl rfl rfl (by decide) ?_
        refine v_aload_n E dX4_listener_44 rfl ?_
        refine v_getIE E f_X4_13 dX4_listener_45 rfl rfl z_u_same ?_
        refine v_iconst (v := nI 1) E dX4_listener_48 (by decide) ?_
        refine v_isubN E dX4_listener_49 (by omega) ?_
        refine v_iret E X dX4_listener_50 ⟨rfl, rfl, ?_, fun q hq => ⟨by rw [z_u_row (by omega), z_u_row (by omega)], rfl⟩⟩
        refine ⟨?_, z_u_same, ?_, m4, fun l hl => ?_, ?_, ?_, ?_, ?_, ?_, ?_⟩
        · rw [z_u_col (by decide), z_u_row (by decide)]; exact m1
        · rw [z_u_col (by decide), z_u_row (by decide)]; exact m3
        · rw [z_u_row (by decide)]
          show z_u I 19 (s_nl s) (nI k) 19 l = nI (va_up (s_kd s) (s_nl s) k l)
          have hl : l < s_nl s + 1 := hl
          by_cases e : l = s_nl s
          · subst e
            rw [z_u_same, u_up_same]
          · rw [z_u_col e, u_up_ne e]
            exact m5 l (by omega)
        · rw [z_u_row (by decide), z_u_row (by decide)]; exact m6
        · rw [z_u_row (by decide), z_u_row (by decide)]; exact m7
        · rw [z_u_row (by decide), z_u_row (by decide)]; exact m8
        · rw [z_u_row (by decide), z_u_row (by decide)]; exact m9
        · rw [z_u_row (by decide), z_u_row (by decide)]; exact m10
        · rw [z_u_row (by decide), z_u_row (by decide)]; exact m11
      · refine v_bipush (v := -4) E dX4_listener_21 (by decide) ?_
        exact v_iret E X dX4_listener_23 (mQ.same (by unfold a_listener; rw [f, if_pos rfl, if_pos (by omega)]) hm0)
    · exact bad (by rw [hx]; exact decide_eq_false (fun z => c1 z.2))
theorem mm_wants (d nl : Nat) (s : zS) (hw : s_wf s) (I : zI) (J : zJ) (hm : mI s I J) (x y : Int32) : z_C yX4_wants cX4_wants 3 (some .int) (d + 1) [.ref 17, .int x, .int y] (z_s nl) I J 0 0 (mQ (a_wants s x y) nl I J) := by
  have hm0 := hm
  obtain ⟨m1, m2, m3, m4, m5, m6, m7, m8, m9, m10, m11⟩ := hm
  obtain ⟨w1, w2, w3, w4, w5, w6, w7, w8, w9, w10⟩ := hw
  refine z_C.of (by decide) (Nat.le_of_ble_eq_true rfl) fun K E X => ?_
  have no : (z_isx x (s_nl s) && z_isx y (s_np s)) = false → z_V K 16 [(0, .ref 17), (1, .int x), (2, .int y)] [] (z_s nl) I J 0 0 := by
    intro e
    refine v_iconst (v := -1) E dX4_wants_16 (by decide) ?_
    exact v_iret E X dX4_wants_17 (mQ.same (by unfold a_wants; rw [e]; rfl) hm0)
  refine v_aload_n E dX4_wants_0 rfl ?_
  refine v_iload_n E dX4_wants_1 rfl ?_
  refine v_callV1 E dX4_wants_2 k_X4_92 Y_X4_isListener (mm_isListener d nl I J m2 x) rfl rfl rfl (Nat.le_of_ble_eq_true rfl) ?_
  refine v_if_eqB (tgt := 16) E dX4_wants_5 (by decide)  (fun e1 => ?_) (fun e1 => ?_)
  · exact no (by rw [e1]; rfl)
  · refine v_aload_n E dX4_wants_8 rfl ?_
    refine v_iload_n E dX4_wants_9 rfl ?_
    refine v_callV1 E dX4_wants_10 k_X4_88 Y_X4_isPiece (mm_isPiece d nl I J m1 y) rfl rfl rfl (Nat.le_of_ble_eq_true rfl) ?_
    refine v_if_neB (tgt := 18) E dX4_wants_13 (by decide)  (fun e2 => ?_) (fun e2 => ?_)
    · have f1 := e1
      have f2 := e2
      obtain ⟨l, hl, rfl⟩ := z_isx_true (by omega) e1
      obtain ⟨p, hp, rfl⟩ := z_isx_true (by omega) e2
      have ha : a_wants s (nI l) (nI p) = a_wantsN s l p := by
        unfold a_wants
        rw [f1, f2, nI_clamp (by omega), nI_clamp (by omega)]
        rfl
      rw [ha] at X
      have hk := w4 l
      have hwt := p2_10 w1 (w5 l)
      refine v_aload_n E dX4_wants_18 rfl ?_
      refine v_getR E f_X4_23 dX4_wants_19 rfl rfl rfl ?_
      refine v_iload_n E dX4_wants_22 rfl ?_
      refine v_ialoadE E dX4_wants_23 rfl rfl (by omega) (by decide) (m5 l hl) ?_
      refine v_iconst (v := nI 2) E dX4_wants_24 (by decide) ?_
      refine v_icmp_neN (tgt := 31) E dX4_wants_25 (by decide) (by omega) (by omega) (fun k2 => ?_) (fun k2 => ?_)
      · refine v_aload_n E dX4_wants_31 rfl ?_
        refine v_getR E f_X4_27 dX4_wants_32 rfl rfl rfl ?_
        refine v_iload_n E dX4_wants_35 rfl ?_
        refine v_ialoadE E dX4_wants_36 rfl rfl (by omega) (by decide) (m6 l (by omega)) ?_
        refine v_iload_n E dX4_wants_37 rfl ?_
        refine v_ishrN E dX4_wants_38 (by omega) (by omega) ?_
        refine v_iconst (v := nI 1) E dX4_wants_39 (by decide) ?_
        refine v_iandN E dX4_wants_40 ?_
        refine v_tb ?_
        refine v_iconst (v := nI 1) E dX4_wants_41 (by decide) ?_
        refine v_icmp_neB (tgt := 47) E dX4_wants_42 (by decide)  (fun k3 => ?_) (fun k3 => ?_)
        · have put : ¬ (s_kd s l = 0 ∧ s_wt s l ≠ 0) → z_V K 68 [(0, .ref 17), (1, .int (nI l)), (2, .int (nI p))] [] (z_s nl) I J 0 0 := by
            intro hn
            have ea : a_wantsN s l p = (1, t_wants s l p) := by
              unfold a_wantsN
              rw [if_neg k2, k3, if_neg Bool.false_ne_true, if_neg hn]
            rw [ea] at X
            refine v_aload_n E dX4_wants_68 rfl ?_
            refine v_getR E f_X4_27 dX4_wants_69 rfl rfl rfl ?_
            refine v_iload_n E dX4_wants_72 rfl ?_
            refine v_dup2 E dX4_wants_73 rfl rfl ?_
            refine v_ialoadE E dX4_wants_74 rfl rfl (by omega) (by decide) (m6 l (by omega)) ?_
            refine v_iconst (v := nI 1) E dX4_wants_75 (by decide) ?_
            refine v_iload_n E dX4_wants_76 rfl ?_
            refine v_ishlN E dX4_wants_77 (by omega) ?_
            refine v_iorN E dX4_wants_78 ?_
            refine v_iastore E dX4_wants_79 rfl rfl (by omega) (by decide) ?_
            refine v_iconst (v := nI 1) E dX4_wants_80 (by decide) ?_
            refine v_iret E X dX4_wants_81 ⟨rfl, rfl, ?_, fun q hq => ⟨z_u_row (by omega), rfl⟩⟩
            refine ⟨?_, ?_, ?_, m4, ?_, fun j hj => ?_, ?_, ?_, ?_, ?_, ?_⟩
            · rw [z_u_row (by decide)]; exact m1
            · rw [z_u_row (by decide)]; exact m2
            · rw [z_u_row (by decide)]; exact m3
            · rw [z_u_row (by decide)]; exact m5
            · show _ = nI (va_up (s_wt s) l (s_wt s l ||| 2 ^ p) j)
              by_cases e : j = l
              · subst e
                rw [z_u_same, u_up_same, Nat.one_mul]
              · rw [z_u_col e, u_up_ne e]
                exact m6 j hj
            · rw [z_u_row (by decide)]; exact m7
            · rw [z_u_row (by decide)]; exact m8
            · rw [z_u_row (by decide)]; exact m9
            · rw [z_u_row (by decide)]; exact m10
            · rw [z_u_row (by decide)]; exact m11
          refine v_aload_n E dX4_wants_47 rfl ?_
          refine v_getR E f_X4_23 dX4_wants_48 rfl rfl rfl ?_
          refine v_iload_n E dX4_wants_51 rfl ?_
          refine v_ialoadE E dX4_wants_52 rfl rfl (by omega) (by decide) (m5 l hl) ?_
          refine v_if_neN (tgt := 68) E dX4_wants_53 (by decide) (by omega) (fun k4 => ?_) (fun k4 => ?_)
          · exact put (by omega)
          · refine v_aload_n E dX4_wants_56 rfl ?_
            refine v_getR E f_X4_27 dX4_wants_57 rfl rfl rfl ?_
            refine v_iload_n E dX4_wants_60 rfl ?_
            refine v_ialoadE E dX4_wants_61 rfl rfl (by omega) (by decide) (m6 l (by omega)) ?_
            refine v_if_eqN (tgt := 68) E dX4_wants_62 (by decide) (by omega) (fun k5 => ?_) (fun k5 => ?_)
            · exact put (by omega)
            · refine v_bipush (v := -4) E dX4_wants_65 (by decide) ?_
              exact v_iret E X dX4_wants_67 (mQ.same (by unfold a_wantsN; rw [if_neg k2, k3, if_neg Bool.false_ne_true, if_pos (by omega)]) hm0)
        · refine v_iconst (v := nI 0) E dX4_wants_45 (by decide) ?_
          exact v_iret E X dX4_wants_46 (mQ.same (by unfold a_wantsN; rw [if_neg k2, k3]; rfl) hm0)
      · refine v_bipush (v := -3) E dX4_wants_28 (by decide) ?_
        exact v_iret E X dX4_wants_30 (mQ.same (by unfold a_wantsN; rw [if_pos k2]) hm0)
    · exact no (by rw [e1, e2]; rfl)
theorem mm_has (d nl : Nat) (s : zS) (hw : s_wf s) (I : zI) (J : zJ) (hm : mI s I J) (x y : Int32) : z_C yX4_has cX4_has 3 (some .int) (d + 1) [.ref 17, .int x, .int y] (z_s nl) I J 0 0 (mQ (a_has s x y) nl I J) := by
  have hm0 := hm
  have hw0 := hw
  obtain ⟨m1, m2, m3, m4, m5, m6, m7, m8, m9, m10, m11⟩ := hm
  obtain ⟨w1, w2, w3, w4, w5, w6, w7, w8, w9, w10⟩ := hw
  refine z_C.of (by decide) (Nat.le_of_ble_eq_true rfl) fun K E X => ?_
  refine v_aload_n E dX4_has_0 rfl ?_
  refine v_iload_n E dX4_has_1 rfl ?_
  refine v_callV1 E dX4_has_2 k_X4_92 Y_X4_isListener (mm_isListener d nl I J m2 x) rfl rfl rfl (Nat.le_of_ble_eq_true rfl) ?_
  refine v_if_neB (tgt := 10) E dX4_has_5 (by decide)  (fun e1 => ?_) (fun e1 => ?_)
  · have f1 := e1
    obtain ⟨l, hl, rfl⟩ := z_isx_true (by omega) e1
    have ha : a_has s (nI l) y = if z_msk y (s_np s) then a_hasN s l y.toNatClampNeg else (-2, s) := by
      unfold a_has
      rw [f1, nI_clamp (by omega)]
      rfl
    rw [ha] at X
    have h12 := w6 l
    have hk := w4 l
    refine v_aload_n E dX4_has_10 rfl ?_
    refine v_iload_n E dX4_has_11 rfl ?_
    refine v_callV1 E dX4_has_12 k_X4_95 Y_X4_isMask (mm_isMask d nl I J m1 w1 y) rfl rfl rfl (Nat.le_of_ble_eq_true rfl) ?_
    have no : (if z_msk y (s_np s) then a_hasN s l y.toNatClampNeg else (-2, s)) = (-2, s) → z_V K 45 [(0, .ref 17), (1, .int (nI l)), (2, .int y)] [] (z_s nl) I J 0 0 := by
      intro e
      refine v_bipush (v := -2) E dX4_has_45 (by decide) ?_
      exact v_iret E X dX4_has_47 (mQ.same e hm0)
    refine v_if_eqB (tgt := 45) E dX4_has_15 (by decide)  (fun e2 => ?_) (fun e2 => ?_)
    · exact no (by rw [e2]; rfl)
    · obtain ⟨m, h0, hmp, rfl⟩ := z_msk_true w1 e2
      have hm1 := p2_10 w1 hmp
      have ha2 : (if z_msk (nI m) (s_np s) then a_hasN s l (nI m).toNatClampNeg else (-2, s)) = a_hasN s l m := by
        rw [e2, nI_clamp (by omega)]
        rfl
      rw [ha2] at X no
      have go : (s_kd s l = 3 ∨ q_pop m = 1) → z_V K 36 [(0, .ref 17), (1, .int (nI l)), (2, .int (nI m))] [] (z_s nl) I J 0 0 := by
        intro hs
        refine v_aload_n E dX4_has_36 rfl ?_
        refine v_iload_n E dX4_has_37 rfl ?_
        refine v_iload_n E dX4_has_38 rfl ?_
        refine v_callV1 E dX4_has_39 k_X4_101 Y_X4_holds (mm_holds d nl s hw0 I J hm0 l hl m hm1) rfl rfl rfl (Nat.le_of_ble_eq_true rfl) ?_
        refine v_if_eqB (tgt := 48) E dX4_has_42 (by decide)  (fun e3 => ?_) (fun e3 => ?_)
        · have e3 : decide (∀ k, k < s_hm s l → s_hs s l k ≠ m) = true := by
            rw [Bool.not_eq_false'] at e3
            exact e3
          have e4 : q_may s l m = true := decide_eq_true ⟨hs, of_decide_eq_true e3⟩
          refine v_aload_n E dX4_has_48 rfl ?_
          refine v_getIE E f_X4_16 dX4_has_49 rfl rfl m3 ?_
          refine v_if_leN (tgt := 58) E dX4_has_52 (by decide) (by omega) (fun e5 => ?_) (fun e5 => ?_)
          · refine v_aload_n E dX4_has_58 rfl ?_
            refine v_getR E f_X4_30 dX4_has_59 rfl rfl rfl ?_
            refine v_iload_n E dX4_has_62 rfl ?_
            refine v_ialoadE E dX4_has_63 rfl rfl (by omega) (by decide) (m7 l (by omega)) ?_
            refine v_bipush (v := nI 12) E dX4_has_64 (by decide) ?_
            refine v_icmp_neN (tgt := 72) E dX4_has_66 (by decide) (by omega) (by omega) (fun e6 => ?_) (fun e6 => ?_)
            · have ea : a_hasN s l m = (nI (s_hm s l + 1), t_has s l m) := by
                unfold a_hasN
                rw [e4, if_pos rfl, if_neg (by omega), if_neg (by omega)]
              rw [ea] at X
              refine v_aload_n E dX4_has_72 rfl ?_
              refine v_getR E f_X4_33 dX4_has_73 rfl rfl rfl ?_
              refine v_bipush (v := nI 12) E dX4_has_76 (by decide) ?_
              refine v_iload_n E dX4_has_78 rfl ?_
              refine v_imulN E dX4_has_79 ?_
              refine v_aload_n E dX4_has_80 rfl ?_
              refine v_getR E f_X4_30 dX4_has_81 rfl rfl rfl ?_
              refine v_iload_n E dX4_has_84 rfl ?_
              refine v_ialoadE E dX4_has_85 rfl rfl (by omega) (by decide) (m7 l (by omega)) ?_
              refine v_iaddN E dX4_has_86 ?_
              refine v_iload_n E dX4_has_87 rfl ?_
              refine v_iastore E dX4_has_88 rfl rfl (by omega) (by decide) ?_
              refine v_aload_n E dX4_has_89 rfl ?_
              refine v_getR E f_X4_30 dX4_has_90 rfl rfl rfl ?_
              refine v_iload_n E dX4_has_93 rfl ?_
              refine v_dup2 E dX4_has_94 rfl rfl ?_
              refine v_ialoadE E dX4_has_95 rfl rfl (by omega) (by decide) (z_ur (by decide) (m7 l (by omega))) ?_
              refine v_iconst (v := nI 1) E dX4_has_96 (by decide) ?_
              refine v_iaddN E dX4_has_97 ?_
              refine v_iastore E dX4_has_98 rfl rfl (by omega) (by decide) ?_
              refine v_aload_n E dX4_has_99 rfl ?_
              refine v_getR E f_X4_30 dX4_has_100 rfl rfl rfl ?_
              refine v_iload_n E dX4_has_103 rfl ?_
              refine v_ialoadE E dX4_has_104 rfl rfl (by omega) (by decide) z_u_same ?_
              refine v_iret E X dX4_has_105 ⟨rfl, rfl, ?_, fun q hq => ⟨by rw [z_u_row (by omega), z_u_row (by omega)], rfl⟩⟩
              refine ⟨?_, ?_, ?_, m4, ?_, ?_, fun j hj => ?_, fun j k hj hk => ?_, ?_, ?_, ?_⟩
              · rw [z_u_row (by decide), z_u_row (by decide)]; exact m1
              · rw [z_u_row (by decide), z_u_row (by decide)]; exact m2
              · rw [z_u_row (by decide), z_u_row (by decide)]; exact m3
              · rw [z_u_row (by decide), z_u_row (by decide)]; exact m5
              · rw [z_u_row (by decide), z_u_row (by decide)]; exact m6
              · show _ = nI (va_up (s_hm s) l (s_hm s l + 1) j)
                by_cases e : j = l
                · subst e
                  rw [z_u_same, u_up_same]
                · rw [z_u_col e, u_up_ne e, z_u_row (by decide)]
                  exact m7 j hj
              · have hk : k < va_up (s_hm s) l (s_hm s l + 1) j := hk
                show _ = nI (va_up (s_hs s) l (va_up (s_hs s l) (s_hm s l) m) j k)
                rw [z_u_row (by decide)]
                by_cases e : j = l
                · subst e
                  rw [u_up_same] at hk ⊢
                  by_cases e7 : k = s_hm s j
                  · subst e7
                    rw [z_u_same, u_up_same]
                  · rw [z_u_col (by omega), u_up_ne e7]
                    exact m8 j k hj (by omega)
                · rw [u_up_ne e] at hk ⊢
                  have := w6 j
                  rw [z_u_col (by omega)]
                  exact m8 j k hj hk
              · rw [z_u_row (by decide), z_u_row (by decide)]; exact m9
              · rw [z_u_row (by decide), z_u_row (by decide)]; exact m10
              · rw [z_u_row (by decide), z_u_row (by decide)]; exact m11
            · refine v_bipush (v := -4) E dX4_has_69 (by decide) ?_
              exact v_iret E X dX4_has_71 (mQ.same (by unfold a_hasN; rw [e4, if_pos rfl, if_neg (by omega), if_pos (by omega)]) hm0)
          · refine v_bipush (v := -5) E dX4_has_55 (by decide) ?_
            exact v_iret E X dX4_has_57 (mQ.same (by unfold a_hasN; rw [e4, if_pos rfl, if_pos (by omega)]) hm0)
        · have e3 : decide (∀ k, k < s_hm s l → s_hs s l k ≠ m) = false := by
            rw [Bool.not_eq_true'] at e3
            exact e3
          have e4 : q_may s l m = false := decide_eq_false (fun z => of_decide_eq_false e3 z.2)
          exact no (by unfold a_hasN; rw [e4]; rfl)
      refine v_aload_n E dX4_has_18 rfl ?_
      refine v_getR E f_X4_23 dX4_has_19 rfl rfl rfl ?_
      refine v_iload_n E dX4_has_22 rfl ?_
      refine v_ialoadE E dX4_has_23 rfl rfl (by omega) (by decide) (m5 l hl) ?_
      refine v_iconst (v := nI 3) E dX4_has_24 (by decide) ?_
      refine v_icmp_eqN (tgt := 36) E dX4_has_25 (by decide) (by omega) (by omega) (fun e8 => ?_) (fun e8 => ?_)
      · exact go (Or.inl e8)
      · refine v_aload_n E dX4_has_28 rfl ?_
        refine v_iload_n E dX4_has_29 rfl ?_
        refine v_callV1 E dX4_has_30 k_X4_98 Y_X4_isSingle (mm_isSingle d nl I J m h0 hm1) rfl rfl rfl (Nat.le_of_ble_eq_true rfl) ?_
        refine v_if_eqB (tgt := 45) E dX4_has_33 (by decide)  (fun e9 => ?_) (fun e9 => ?_)
        · have e4 : q_may s l m = false := decide_eq_false (fun z => z.1.elim e8 (of_decide_eq_false e9))
          exact no (by unfold a_hasN; rw [e4]; rfl)
        · exact go (Or.inr (of_decide_eq_true e9))
  · refine v_iconst (v := -1) E dX4_has_8 (by decide) ?_
    exact v_iret E X dX4_has_9 (mQ.same (by unfold a_has; rw [e1]; rfl) hm0)
theorem mm_off (d nl : Nat) (s : zS) (hw : s_wf s) (I : zI) (J : zJ) (hm : mI s I J) (x y : Int32) : z_C yX4_off cX4_off 4 (some .int) (d + 1) [.ref 17, .int x, .int y] (z_s nl) I J 0 0 (mQ (a_off s x y) nl I J) := by
  have hm0 := hm
  obtain ⟨m1, m2, m3, m4, m5, m6, m7, m8, m9, m10, m11⟩ := hm
  obtain ⟨w1, w2, w3, w4, w5, w6, w7, w8, w9, w10⟩ := hw
  refine z_C.of (by decide) (Nat.le_of_ble_eq_true rfl) fun K E X => ?_
  refine v_aload_n E dX4_off_0 rfl ?_
  refine v_iload_n E dX4_off_1 rfl ?_
  refine v_callV1 E dX4_off_2 k_X4_92 Y_X4_isListener (mm_isListener d nl I J m2 x) rfl rfl rfl (Nat.le_of_ble_eq_true rfl) ?_
  refine v_if_neB (tgt := 10) E dX4_off_5 (by decide)  (fun e1 => ?_) (fun e1 => ?_)
  · have f1 := e1
    obtain ⟨l, hl, rfl⟩ := z_isx_true (by omega) e1
    have ha : a_off s (nI l) y = a_offN s l y := by
      unfold a_off
      rw [f1, nI_clamp (by omega)]
      rfl
    rw [ha] at X
    have hk := w4 l
    refine v_aload_n E dX4_off_10 rfl ?_
    refine v_getR E f_X4_23 dX4_off_11 rfl rfl rfl ?_
    refine v_iload_n E dX4_off_14 rfl ?_
    refine v_ialoadE E dX4_off_15 rfl rfl (by omega) (by decide) (m5 l hl) ?_
    refine v_iconst (v := nI 4) E dX4_off_16 (by decide) ?_
    refine v_icmp_eqN (tgt := 23) E dX4_off_17 (by decide) (by omega) (by omega) (fun k4 => ?_) (fun k4 => ?_)
    · have bad : ¬ (y = 0 ∨ y = 1) → z_V K 32 [(0, .ref 17), (1, .int (nI l)), (2, .int y)] [] (z_s nl) I J 0 0 := by
        intro e
        refine v_bipush (v := -2) E dX4_off_32 (by decide) ?_
        exact v_iret E X dX4_off_34 (mQ.same (by unfold a_offN; rw [if_pos k4, if_neg e]) hm0)
      have go : (y = 0 ∨ y = 1) → z_V K 35 [(0, .ref 17), (1, .int (nI l)), (2, .int y)] [] (z_s nl) I J 0 0 := by
        intro hy
        have ea : a_offN s l y = (nI (s_of s l).toNat, t_off s l (decide (y = 1))) := by unfold a_offN; rw [if_pos k4, if_pos hy]
        rw [ea] at X
        have fin : ∀ b : Bool, decide (y = 1) = b → z_V K 65 [(0, .ref 17), (1, .int (nI l)), (2, .int y), (3, .int (nI (s_of s l).toNat))] [.int (nI b.toNat), .int (nI l), .ref 23] (z_s nl) I J 0 0 := by
          intro b hb
          refine v_bastore E dX4_off_65 rfl rfl (by omega) (by decide) (q_b01 b) ?_
          refine v_iload_n E dX4_off_66 rfl ?_
          refine v_iret E X dX4_off_67 ⟨rfl, rfl, ?_, fun q hq => ⟨z_u_row (by omega), rfl⟩⟩
          refine ⟨?_, ?_, ?_, m4, ?_, ?_, ?_, ?_, fun j hj => ?_, ?_, ?_⟩
          · rw [z_u_row (by decide)]; exact m1
          · rw [z_u_row (by decide)]; exact m2
          · rw [z_u_row (by decide)]; exact m3
          · rw [z_u_row (by decide)]; exact m5
          · rw [z_u_row (by decide)]; exact m6
          · rw [z_u_row (by decide)]; exact m7
          · rw [z_u_row (by decide)]; exact m8
          · show _ = nI (va_up (s_of s) l (decide (y = 1)) j).toNat
            by_cases e : j = l
            · subst e
              rw [z_u_same, u_up_same, hb]
            · rw [z_u_col e, u_up_ne e]
              exact m9 j hj
          · rw [z_u_row (by decide)]; exact m10
          · rw [z_u_row (by decide)]; exact m11
        have fin2 : z_V K 49 [(0, .ref 17), (1, .int (nI l)), (2, .int y)] [.int (nI (s_of s l).toNat)] (z_s nl) I J 0 0 := by
          refine v_istore_n E dX4_off_49 (by decide) ?_
          refine v_aload_n E dX4_off_50 rfl ?_
          refine v_getR E f_X4_36 dX4_off_51 rfl rfl rfl ?_
          refine v_iload_n E dX4_off_54 rfl ?_
          refine v_iload_n E dX4_off_55 rfl ?_
          refine v_iconst (v := nI 1) E dX4_off_56 (by decide) ?_
          refine v_icmp_ne (tgt := 64) E dX4_off_57 (by decide)  (fun k6 => ?_) (fun k6 => ?_)
          · refine v_iconst (v := nI 0) E dX4_off_64 (by decide) ?_
            exact fin false (decide_eq_false k6)
          · refine v_iconst (v := nI 1) E dX4_off_60 (by decide) ?_
            refine v_goto (tgt := 65) E dX4_off_61 (by decide) ?_
            exact fin true (decide_eq_true k6)
        refine v_aload_n E dX4_off_35 rfl ?_
        refine v_getR E f_X4_36 dX4_off_36 rfl rfl rfl ?_
        refine v_iload_n E dX4_off_39 rfl ?_
        refine v_baloadE E dX4_off_40 rfl rfl (by omega) (by decide) (m9 l (by omega)) ?_
        refine v_if_eqB (tgt := 48) E dX4_off_41 (by decide)  (fun k5 => ?_) (fun k5 => ?_)
        · rw [k5] at fin2
          refine v_iconst (v := nI 0) E dX4_off_48 (by decide) ?_
          exact fin2
        · rw [k5] at fin2
          refine v_iconst (v := nI 1) E dX4_off_44 (by decide) ?_
          refine v_goto (tgt := 49) E dX4_off_45 (by decide) ?_
          exact fin2
      refine v_iload_n E dX4_off_23 rfl ?_
      refine v_if_lt (tgt := 32) E dX4_off_24 (by decide)  (fun k5 => ?_) (fun k5 => ?_)
      · exact bad (by rintro (rfl | rfl) <;> exact absurd k5 (by decide))
      · refine v_iload_n E dX4_off_27 rfl ?_
        refine v_iconst (v := nI 1) E dX4_off_28 (by decide) ?_
        have hx := z_isx_le (x := y) (n := 1) (by decide)
        refine v_icmp_le (tgt := 35) E dX4_off_29 (by decide)  (fun k6 => ?_) (fun k6 => ?_)
        · have e : z_isx y 2 = true := by rw [hx]; exact decide_eq_true ⟨k5, k6⟩
          obtain ⟨k, hk, rfl⟩ := z_isx_true (by omega) e
          exact go (by
            rcases (by omega : k = 0 ∨ k = 1) with rfl | rfl
            · exact Or.inl rfl
            · exact Or.inr rfl)
        · exact bad (by rintro (rfl | rfl) <;> exact absurd (by decide) k6)
    · refine v_bipush (v := -3) E dX4_off_20 (by decide) ?_
      exact v_iret E X dX4_off_22 (mQ.same (by unfold a_offN; rw [if_neg k4]) hm0)
  · refine v_iconst (v := -1) E dX4_off_8 (by decide) ?_
    exact v_iret E X dX4_off_9 (mQ.same (by unfold a_off; rw [e1]; rfl) hm0)
theorem mm_said (d nl : Nat) (s : zS) (hw : s_wf s) (I : zI) (J : zJ) (hm : mI s I J) (m : Nat) (h40 : s_nc s < 40) : z_C yX4_said cX4_said 3 (some .int) d [.ref 17, .int (nI m)] (z_s nl) I J 0 0 (mQ (nI (s_nc s), t_say s m) nl I J) := by
  have hm0 := hm
  obtain ⟨m1, m2, m3, m4, m5, m6, m7, m8, m9, m10, m11⟩ := hm
  obtain ⟨w1, w2, w3, w4, w5, w6, w7, w8, w9, w10⟩ := hw
  refine z_C.of (by decide) (Nat.le_of_ble_eq_true rfl) fun K E X => ?_
  refine v_aload_n E dX4_said_0 rfl ?_
  refine v_getR E f_X4_40 dX4_said_1 rfl rfl rfl ?_
  refine v_aload_n E dX4_said_4 rfl ?_
  refine v_getIE E f_X4_16 dX4_said_5 rfl rfl m3 ?_
  refine v_iload_n E dX4_said_8 rfl ?_
  refine v_iastore E dX4_said_9 rfl rfl (by omega) (by decide) ?_
  refine v_aload_n E dX4_said_10 rfl ?_
  refine v_getR E f_X4_43 dX4_said_11 rfl rfl rfl ?_
  refine v_aload_n E dX4_said_14 rfl ?_
  refine v_getIE E f_X4_16 dX4_said_15 rfl rfl (z_ur (by decide) (m3)) ?_
  refine v_iconst (v := nI 0) E dX4_said_18 (by decide) ?_
  refine v_iastore E dX4_said_19 rfl rfl (by omega) (by decide) ?_
  refine v_iconst (v := nI 0) E dX4_said_20 (by decide) ?_
  refine v_istore_n E dX4_said_21 (by decide) ?_
  have loop : ∀ k, k ≤ s_nl s → ∀ I' : zI, (I' 25 (s_nc s) = nI (q_hrd (s_of s) k) ∧ I' 24 (s_nc s) = nI m ∧ (∀ q, q ≠ 24 → q ≠ 25 → I' q = I q) ∧ ∀ c, c ≠ s_nc s → I' 24 c = I 24 c ∧ I' 25 c = I 25 c) → z_V K 22 [(0, .ref 17), (1, .int (nI m)), (2, .int (nI k))] [] (z_s nl) I' J 0 0 := by
    refine z_for (s_nl s) ?_ (fun k hk ih => ?_)
    · rintro I' ⟨p1, p2, p3, p4⟩
      have i17 := p3 17 (by decide) (by decide)
      refine v_iload_n E dX4_said_22 rfl ?_
      refine v_aload_n E dX4_said_23 rfl ?_
      refine v_getIE E f_X4_13 dX4_said_24 rfl rfl ((congrFun i17 _).trans (m2)) ?_
      refine v_icmp_geN (tgt := 60) E dX4_said_27 (by decide) (by omega) (by omega) (fun c => ?_) (fun c => ?_)
      · refine v_aload_n E dX4_said_60 rfl ?_
        refine v_dup E dX4_said_61 rfl ?_
        refine v_getIE E f_X4_16 dX4_said_62 rfl rfl ((congrFun i17 _).trans (m3)) ?_
        refine v_iconst (v := nI 1) E dX4_said_65 (by decide) ?_
        refine v_iaddN E dX4_said_66 ?_
        refine v_putI E f_X4_16 dX4_said_67 rfl rfl rfl rfl (by decide) ?_
        refine v_aload_n E dX4_said_70 rfl ?_
        refine v_getIE E f_X4_16 dX4_said_71 rfl rfl z_u_same ?_
        refine v_iconst (v := nI 1) E dX4_said_74 (by decide) ?_
        refine v_isubN E dX4_said_75 (by omega) ?_
        refine v_iret E X dX4_said_76 ⟨rfl, rfl, ?_, fun q hq => ⟨by rw [z_u_row (by omega)]; exact p3 q (by omega) (by omega), rfl⟩⟩
        refine ⟨?_, ?_, z_u_same, m4, ?_, ?_, ?_, ?_, ?_, fun c9 hc9 => ?_, fun c9 hc9 => ?_⟩
        · rw [z_u_col (by decide), i17]; exact m1
        · rw [z_u_col (by decide), i17]; exact m2
        · rw [z_u_row (by decide), p3 _ (by decide) (by decide)]; exact m5
        · rw [z_u_row (by decide), p3 _ (by decide) (by decide)]; exact m6
        · rw [z_u_row (by decide), p3 _ (by decide) (by decide)]; exact m7
        · rw [z_u_row (by decide), p3 _ (by decide) (by decide)]; exact m8
        · rw [z_u_row (by decide), p3 _ (by decide) (by decide)]; exact m9
        · have hc9 : c9 < s_nc s + 1 := hc9
          rw [z_u_row (by decide)]
          show I' 24 c9 = nI (va_up (s_cm s) (s_nc s) m c9)
          by_cases e : c9 = s_nc s
          · rw [e, u_up_same]; exact p2
          · rw [u_up_ne e, (p4 c9 e).1]
            exact m10 c9 (by omega)
        · have hc9 : c9 < s_nc s + 1 := hc9
          rw [z_u_row (by decide)]
          show I' 25 c9 = nI (va_up (s_hb s) (s_nc s) (s_hrd s) c9)
          by_cases e : c9 = s_nc s
          · rw [e, u_up_same]; exact p1
          · rw [u_up_ne e, (p4 c9 e).2]
            exact m11 c9 (by omega)
      · exact absurd c (by omega)
    · rintro I' ⟨p1, p2, p3, p4⟩
      have i17 := p3 17 (by decide) (by decide)
      have i23 := p3 23 (by decide) (by decide)
      refine v_iload_n E dX4_said_22 rfl ?_
      refine v_aload_n E dX4_said_23 rfl ?_
      refine v_getIE E f_X4_13 dX4_said_24 rfl rfl ((congrFun i17 _).trans (m2)) ?_
      refine v_icmp_geN (tgt := 60) E dX4_said_27 (by decide) (by omega) (by omega) (fun c => ?_) (fun c => ?_)
      · exact absurd c (by omega)
      · refine v_aload_n E dX4_said_30 rfl ?_
        refine v_getR E f_X4_36 dX4_said_31 rfl rfl rfl ?_
        refine v_iload_n E dX4_said_34 rfl ?_
        refine v_baloadE E dX4_said_35 rfl rfl (by omega) (by decide) ((congrFun i23 _).trans (m9 k (by omega))) ?_
        have e : q_hrd (s_of s) (k + 1) = if s_of s k then q_hrd (s_of s) k else q_hrd (s_of s) k ||| 2 ^ k := rfl
        refine v_if_neB (tgt := 54) E dX4_said_36 (by decide)  (fun c2 => ?_) (fun c2 => ?_)
        · rw [c2] at e
          refine v_inc E dX4_said_54 rfl (by decide) ?_
          refine v_goto (tgt := 22) E dX4_said_57 (by decide) ?_
          exact ih I' ⟨by rw [e]; exact p1, p2, p3, p4⟩
        · rw [c2] at e
          refine v_aload_n E dX4_said_39 rfl ?_
          refine v_getR E f_X4_43 dX4_said_40 rfl rfl rfl ?_
          refine v_aload_n E dX4_said_43 rfl ?_
          refine v_getIE E f_X4_16 dX4_said_44 rfl rfl ((congrFun i17 _).trans (m3)) ?_
          refine v_dup2 E dX4_said_47 rfl rfl ?_
          refine v_ialoadE E dX4_said_48 rfl rfl (by omega) (by decide) p1 ?_
          refine v_iconst (v := nI 1) E dX4_said_49 (by decide) ?_
          refine v_iload_n E dX4_said_50 rfl ?_
          refine v_ishlN E dX4_said_51 (by omega) ?_
          refine v_iorN E dX4_said_52 ?_
          refine v_iastore E dX4_said_53 rfl rfl (by omega) (by decide) ?_
          refine v_inc E dX4_said_54 rfl (by decide) ?_
          refine v_goto (tgt := 22) E dX4_said_57 (by decide) ?_
          refine ih _ ⟨?_, ?_, fun q q1 q2 => ?_, fun c9 hc9 => ⟨?_, ?_⟩⟩
          · rw [z_u_same, e, Nat.one_mul]; rfl
          · rw [z_u_row (by decide)]; exact p2
          · rw [z_u_row q2]; exact p3 q q1 q2
          · rw [z_u_row (by decide)]; exact (p4 c9 hc9).1
          · rw [z_u_col hc9]; exact (p4 c9 hc9).2
  refine loop 0 (by omega) _ ⟨z_u_same, ?_, fun q q1 q2 => ?_, fun c9 hc9 => ⟨?_, ?_⟩⟩
  · rw [z_u_row (by decide)]; exact z_u_same
  · rw [z_u_row q2, z_u_row q1]
  · rw [z_u_row (by decide), z_u_col hc9]
  · rw [z_u_col hc9, z_u_row (by decide)]
theorem mm_say (d nl : Nat) (s : zS) (hw : s_wf s) (I : zI) (J : zJ) (hm : mI s I J) (x : Int32) : z_C yX4_say cX4_say 2 (some .int) (d + 1) [.ref 17, .int x] (z_s nl) I J 0 0 (mQ (a_say s x) nl I J) := by
  have w1 := hw.1
  have w3 := hw.2.2.1
  refine z_C.of (by decide) (Nat.le_of_ble_eq_true rfl) fun K E X => ?_
  refine v_aload_n E dX4_say_0 rfl ?_
  refine v_iload_n E dX4_say_1 rfl ?_
  refine v_callV1 E dX4_say_2 k_X4_95 Y_X4_isMask (mm_isMask d nl I J hm.1 w1 x) rfl rfl rfl (Nat.le_of_ble_eq_true rfl) ?_
  refine v_if_neB (tgt := 11) E dX4_say_5 (by decide)  (fun e => ?_) (fun e => ?_)
  · obtain ⟨m, h0, hmp, rfl⟩ := z_msk_true w1 e
    have hm1 := p2_10 w1 hmp
    have ha : a_say s (nI m) = a_sayN s m := by
      unfold a_say
      rw [e, nI_clamp (by omega)]
      rfl
    rw [ha] at X
    refine v_aload_n E dX4_say_11 rfl ?_
    refine v_getIE E f_X4_16 dX4_say_12 rfl rfl hm.2.2.1 ?_
    refine v_bipush (v := nI 40) E dX4_say_15 (by decide) ?_
    refine v_icmp_neN (tgt := 25) E dX4_say_17 (by decide) (by omega) (by omega) (fun c => ?_) (fun c => ?_)
    · have ea : a_sayN s m = (nI (s_nc s), t_say s m) := by unfold a_sayN; rw [if_neg (by omega)]
      rw [ea] at X
      refine v_aload_n E dX4_say_25 rfl ?_
      refine v_iload_n E dX4_say_26 rfl ?_
      refine v_callV E dX4_say_27 k_X4_105 Y_X4_said (mm_said d nl s hw I J hm m (by omega)) rfl rfl rfl (Nat.le_of_ble_eq_true rfl) ?_
      rintro r h' I' J' ⟨rfl, rfl, g1, g2⟩
      exact v_iret E X dX4_say_30 ⟨rfl, rfl, g1, g2⟩
    · refine v_bipush (v := -4) E dX4_say_20 (by decide) ?_
      refine v_goto (tgt := 30) E dX4_say_22 (by decide) ?_
      exact v_iret E X dX4_say_30 (mQ.same (by unfold a_sayN; rw [if_pos (by omega)]) hm)
  · refine v_bipush (v := -2) E dX4_say_8 (by decide) ?_
    exact v_iret E X dX4_say_10 (mQ.same (by unfold a_say; rw [e]; rfl) hm)
theorem mm_again (d nl : Nat) (s : zS) (hw : s_wf s) (I : zI) (J : zJ) (hm : mI s I J) (x : Int32) : z_C yX4_again cX4_again 2 (some .int) (d + 1) [.ref 17, .int x] (z_s nl) I J 0 0 (mQ (a_again s x) nl I J) := by
  have w3 := hw.2.2.1
  have m10 := hm.2.2.2.2.2.2.2.2.2.1
  refine z_C.of (by decide) (Nat.le_of_ble_eq_true rfl) fun K E X => ?_
  refine v_aload_n E dX4_again_0 rfl ?_
  refine v_iload_n E dX4_again_1 rfl ?_
  refine v_callV1 E dX4_again_2 k_X4_109 Y_X4_isCall (mm_isCall d nl I J hm.2.2.1 x) rfl rfl rfl (Nat.le_of_ble_eq_true rfl) ?_
  refine v_if_neB (tgt := 10) E dX4_again_5 (by decide)  (fun e => ?_) (fun e => ?_)
  · obtain ⟨c0, hc, rfl⟩ := z_isx_true (by omega) e
    have ha : a_again s (nI c0) = a_sayN s (s_cm s c0) := by
      unfold a_again
      rw [e, nI_clamp (by omega)]
      rfl
    rw [ha] at X
    refine v_aload_n E dX4_again_10 rfl ?_
    refine v_getIE E f_X4_16 dX4_again_11 rfl rfl hm.2.2.1 ?_
    refine v_bipush (v := nI 40) E dX4_again_14 (by decide) ?_
    refine v_icmp_neN (tgt := 24) E dX4_again_16 (by decide) (by omega) (by omega) (fun c => ?_) (fun c => ?_)
    · have ea : a_sayN s (s_cm s c0) = (nI (s_nc s), t_say s (s_cm s c0)) := by unfold a_sayN; rw [if_neg (by omega)]
      rw [ea] at X
      refine v_aload_n E dX4_again_24 rfl ?_
      refine v_aload_n E dX4_again_25 rfl ?_
      refine v_getR E f_X4_40 dX4_again_26 rfl rfl rfl ?_
      refine v_iload_n E dX4_again_29 rfl ?_
      refine v_ialoadE E dX4_again_30 rfl rfl (by omega) (by decide) (m10 c0 hc) ?_
      refine v_callV E dX4_again_31 k_X4_105 Y_X4_said (mm_said d nl s hw I J hm (s_cm s c0) (by omega)) rfl rfl rfl (Nat.le_of_ble_eq_true rfl) ?_
      rintro r h' I' J' ⟨rfl, rfl, g1, g2⟩
      exact v_iret E X dX4_again_34 ⟨rfl, rfl, g1, g2⟩
    · refine v_bipush (v := -4) E dX4_again_19 (by decide) ?_
      refine v_goto (tgt := 34) E dX4_again_21 (by decide) ?_
      exact v_iret E X dX4_again_34 (mQ.same (by unfold a_sayN; rw [if_pos (by omega)]) hm)
  · refine v_iconst (v := -1) E dX4_again_8 (by decide) ?_
    exact v_iret E X dX4_again_9 (mQ.same (by unfold a_again; rw [e]; rfl) hm)
