/-! OneCall: the acts -/
/-- a listener's cells hang on its own places alone -/
theorem lsI_kept {I I' : zI} {J J' : zJ} {a kd : Nat} {rs : List Nat} {hm hp wt hc : Nat} {off : Bool} (h : lsI I J a kd rs hm hp wt hc off) (hq : ∀ q, a ≤ q → q ≤ a + 4 → I' q = I q ∧ J' q = J q) : lsI I' J' a kd rs hm hp wt hc off := by
  obtain ⟨i0, i3, i4, i5, i6, i7, i8, ir, ik, ij⟩ := h
  have e0 := hq a (by omega) (by omega)
  have e1 := hq (a + 1) (by omega) (by omega)
  have e2 := hq (a + 2) (by omega) (by omega)
  have e3 := hq (a + 2 + 1) (by omega) (by omega)
  have e4 := hq (a + 2 + 2) (by omega) (by omega)
  refine ⟨?_, ?_, ?_, ?_, ?_, ?_, ?_, ?_, ⟨?_, ?_⟩, ?_⟩
  · rw [e0.1]; exact i0
  · rw [e0.1]; exact i3
  · rw [e0.1]; exact i4
  · rw [e0.1]; exact i5
  · rw [e0.1]; exact i6
  · rw [e0.2]; exact i7
  · rw [e0.1]; exact i8
  · intro k hk; rw [e1.1]; exact ir k hk
  · intro p hp; rw [e3.1]; exact ik.1 p hp
  · rw [e2.1]; exact ik.2
  · intro p hp; rw [e4.2]; exact ij p hp
theorem m_piece (d : Nat) (s : zS) (hw : s_wf s) (I : zI) (J : zJ) (hc : cI s I J) (v : Int64) : z_C yX3_piece cX3_piece 3 (some .int) d [.ref 1, .long v] (z_s (s_nl s)) I J 0 0 (cQ (a_piece s v) I J) := by
  have hc0 := hc
  obtain ⟨c1, c2, c3, c4, c5, c6, c7, c8⟩ := hc
  obtain ⟨w1, w2, w3, w4, w5, w6, w7, w8, w9, w10⟩ := hw
  refine z_C.of (by decide) (Nat.le_of_ble_eq_true rfl) fun K E X => ?_
  refine v_aload_n E dX3_piece_0 rfl ?_
  refine v_getIE E f_X3_47 dX3_piece_1 rfl rfl c2 ?_
  refine v_if_leN (tgt := 10) E dX3_piece_4 (by decide) (by omega) (fun e1 => ?_) (fun e1 => ?_)
  · refine v_aload_n E dX3_piece_10 rfl ?_
    refine v_getIE E f_X3_51 dX3_piece_11 rfl rfl c1 ?_
    refine v_bipush (v := nI 10) E dX3_piece_14 (by decide) ?_
    refine v_icmp_ltN (tgt := 22) E dX3_piece_16 (by decide) (by omega) (by omega) (fun e2 => ?_) (fun e2 => ?_)
    · refine v_aload_n E dX3_piece_22 rfl ?_
      refine v_getR E f_X3_9 dX3_piece_23 rfl rfl rfl ?_
      refine v_aload_n E dX3_piece_26 rfl ?_
      refine v_getIE E f_X3_51 dX3_piece_27 rfl rfl c1 ?_
      refine v_lload_n E dX3_piece_30 rfl ?_
      refine v_lastore E dX3_piece_31 rfl rfl e2 (by decide) ?_
      refine v_aload_n E dX3_piece_32 rfl ?_
      refine v_dup E dX3_piece_33 rfl ?_
      refine v_getIE E f_X3_51 dX3_piece_34 rfl rfl c1 ?_
      refine v_iconst (v := nI 1) E dX3_piece_37 (by decide) ?_
      refine v_iaddN E dX3_piece_38 ?_
      refine v_putI E f_X3_51 dX3_piece_39 rfl rfl rfl rfl (by decide) ?_
      refine v_aload_n E dX3_piece_42 rfl ?_
      refine v_getIE E f_X3_51 dX3_piece_43 rfl rfl z_u_same ?_
      refine v_iconst (v := nI 1) E dX3_piece_46 (by decide) ?_
      refine v_isubN E dX3_piece_47 (by omega) ?_
      have ea : a_piece s v = (nI (s_np s), t_piece s v) := by unfold a_piece; rw [if_neg (by omega), if_neg (by omega)]
      rw [ea] at X
      refine v_iret E X dX3_piece_48 ⟨rfl, rfl, ?_, fun q q1 q2 => ⟨z_u_row (by omega), z_u_row (by omega)⟩⟩
      · refine ⟨z_u_same, ?_, ?_, fun p hp => ?_, fun c hc => ?_, fun c hc => ?_, fun c hc => ?_, fun l hl => ?_⟩
        · rw [z_u_col (by decide)]; exact c2
        · rw [z_u_row (by decide)]; exact c3
        · show z_u J 2 (s_np s) v 2 p = va_up (s_pv s) (s_np s) v p
          have hp : p < s_np s + 1 := hp
          by_cases e : p = s_np s
          · subst e
            rw [z_u_same, u_up_same]
          · rw [z_u_col e, u_up_ne e]
            exact c4 p (by omega)
        · rw [z_u_row (by decide)]; exact c5 c hc
        · rw [z_u_row (by decide)]; exact c6 c hc
        · rw [z_u_row (by decide)]; exact c7 c hc
        · have := z_pl_37 l
          exact lsI_kept (c8 l hl) (fun q q1 q2 => ⟨z_u_row (by omega), z_u_row (by omega)⟩)
    · refine v_bipush (v := -4) E dX3_piece_19 (by decide) ?_
      exact v_iret E X dX3_piece_21 (cQ.same (by unfold a_piece; rw [if_neg (by omega), if_pos (by omega)]) hc0)
  · refine v_bipush (v := -5) E dX3_piece_7 (by decide) ?_
    exact v_iret E X dX3_piece_9 (cQ.same (by unfold a_piece; rw [if_pos (by omega)]) hc0)
/-- one listener's cells have changed, the rest of the class's has not -/
theorem cI_one {s s' : zS} {I I' : zI} {J J' : zJ} {l : Nat} (hc : cI s I J) (hl : l < s_nl s) (h1 : s'.1 = s.1) (h2 : s'.2.2 = s.2.2) (h3 : s_nl s' = s_nl s) (hfr : lFr (z_pl l) I J I' J') (hnew : ∀ c, c < s_nc s → s_newc s' c = s_newc s c)
    (ho : ∀ j, j < s_nl s → j ≠ l → s_kd s' j = s_kd s j ∧ s_rows s' j = s_rows s j ∧ s_hm s' j = s_hm s j ∧ s_hp s' j = s_hp s j ∧ s_wt s' j = s_wt s j ∧ s_of s' j = s_of s j)
    (hL : lsI I' J' (z_pl l) (s_kd s' l) (s_rows s' l) (s_hm s' l) (s_hp s' l) (s_wt s' l) (s_hc s' l) (s_of s' l)) : cI s' I' J' := by
  obtain ⟨c1, c2, c3, c4, c5, c6, c7, c8⟩ := hc
  have h37 := z_pl_37 l
  have fr : ∀ q, q < 37 → I' q = I q ∧ J' q = J q := fun q hq => hfr q (Or.inl (by omega))
  have e1 : s_np s' = s_np s := congrArg Prod.fst h1
  have e2 : s_pv s' = s_pv s := congrArg Prod.snd h1
  have e3 : s_nc s' = s_nc s := congrArg Prod.fst h2
  have e4 : s_cm s' = s_cm s := congrArg (fun z => z.2.1) h2
  have e5 : s_hb s' = s_hb s := congrArg (fun z => z.2.2) h2
  refine ⟨?_, ?_, ?_, ?_, ?_, ?_, ?_, ?_⟩
  · rw [(fr 1 (by decide)).1, e1]; exact c1
  · rw [(fr 1 (by decide)).1, e3]; exact c2
  · rw [(fr 3 (by decide)).1, h3]; exact c3
  · rw [(fr 2 (by decide)).2, e1, e2]; exact c4
  · rw [(fr 4 (by decide)).1, e3, e4]; exact c5
  · intro c hc
    rw [(fr 5 (by decide)).1, e3, c6 c hc]
    unfold s_hear
    rw [e5]
  · intro c hc
    rw [(fr 6 (by decide)).1, e3, c7 c hc]
    by_cases h : c < s_nc s
    · rw [if_pos h, if_pos h, hnew c h]
    · rw [if_neg h, if_neg h]
  · intro j hj
    rw [h3] at hj
    by_cases e : j = l
    · subst e
      exact hL
    · obtain ⟨o1, o2, o3, o4, o5, o6⟩ := ho j hj e
      have hhc : s_hc s' j = s_hc s j := by unfold s_hc; rw [e5, e3]
      rw [o1, o2, o3, o4, o5, o6, hhc]
      have hne := z_pl_ne e
      exact lsI_kept (c8 j hj) (fun q q1 q2 => hfr q (by omega))
theorem m_wants (d : Nat) (s : zS) (hw : s_wf s) (I : zI) (J : zJ) (hc : cI s I J) (x y : Int32) : z_C yX3_wants cX3_wants 4 (some .int) (d + 3) [.ref 1, .int x, .int y] (z_s (s_nl s)) I J 0 0 (cQ (a_wants s x y) I J) := by
  have c1 := hc.1
  have c3 := hc.2.2.1
  have w1 := hw.1
  have w2 := hw.2.1
  refine z_C.of (by decide) (Nat.le_of_ble_eq_true rfl) fun K E X => ?_
  have no : (z_isx x (s_nl s) && z_isx y (s_np s)) = false → z_V K 16 [(0, .ref 1), (1, .int x), (2, .int y)] [] (z_s (s_nl s)) I J 0 0 := by
    intro e
    refine v_iconst (v := -1) E dX3_wants_16 (by decide) ?_
    exact v_iret E X dX3_wants_17 (cQ.same (by unfold a_wants; rw [e]; rfl) hc)
  refine v_aload_n E dX3_wants_0 rfl ?_
  refine v_iload_n E dX3_wants_1 rfl ?_
  refine v_callV1 E dX3_wants_2 k_X3_71 Y_X3_isListener (m_isListener (d + 1) (s_nl s) I J c3 x) rfl rfl rfl (Nat.le_of_ble_eq_true rfl) ?_
  refine v_if_eqB (tgt := 16) E dX3_wants_5 (by decide)  (fun e1 => ?_) (fun e1 => ?_)
  · exact no (by rw [e1]; rfl)
  · refine v_aload_n E dX3_wants_8 rfl ?_
    refine v_iload_n E dX3_wants_9 rfl ?_
    refine v_callV1 E dX3_wants_10 k_X3_54 Y_X3_isPiece (m_isPiece (d + 2) (s_nl s) (s_np s) I J c1 y) rfl rfl rfl (Nat.le_of_ble_eq_true rfl) ?_
    refine v_if_neB (tgt := 18) E dX3_wants_13 (by decide)  (fun e2 => ?_) (fun e2 => ?_)
    · have f1 := e1
      have f2 := e2
      obtain ⟨l, hl, rfl⟩ := z_isx_true (by omega) e1
      obtain ⟨p, hp, rfl⟩ := z_isx_true (by omega) e2
      have ha : a_wants s (nI l) (nI p) = a_wantsN s l p := by
        unfold a_wants
        rw [f1, f2, nI_clamp (by omega), nI_clamp (by omega)]
        rfl
      rw [ha] at X
      have hL := hc.2.2.2.2.2.2.2 l hl
      obtain ⟨b0, b1, b2, b3, b4, b5⟩ := s_lsB hw l
      obtain ⟨i0, i3, i4, i5, i6, i7, i8, ir, ik, ij⟩ := hL
      refine v_aload_n E dX3_wants_18 rfl ?_
      refine v_getR E f_X3_16 dX3_wants_19 rfl rfl rfl ?_
      refine v_iload_n E dX3_wants_22 rfl ?_
      refine v_callV1 E dX3_wants_23 k_X3_74 Y_Jx4a65c_get_915e3 (m_get d (s_nl s) I J c3 l hl w2) rfl rfl rfl (Nat.le_of_ble_eq_true rfl) ?_
      refine v_checkcast E dX3_wants_26 c_X3_62 (by decide) (v_cc hl) ?_
      refine v_astore_n E dX3_wants_29 (by decide) ?_
      refine v_aload_n E dX3_wants_30 rfl ?_
      refine v_getIE E f_X3_78 dX3_wants_31 (v_cc hl) rfl i0 ?_
      refine v_iconst (v := nI 2) E dX3_wants_34 (by decide) ?_
      refine v_icmp_neN (tgt := 41) E dX3_wants_35 (by decide) (by omega) (by omega) (fun k2 => ?_) (fun k2 => ?_)
      · refine v_iload_n E dX3_wants_41 rfl ?_
        refine v_aload_n E dX3_wants_42 rfl ?_
        refine v_getIE E f_X3_81 dX3_wants_43 (v_cc hl) rfl i6 ?_
        refine v_callS1 E dX3_wants_46 k_X3_84 Y_X3_isIn (m_isIn (d + 2) (z_s (s_nl s)) I J p (s_wt s l) (by omega) (by omega)) rfl rfl (Nat.le_of_ble_eq_true rfl) ?_
        refine v_if_eqB (tgt := 54) E dX3_wants_49 (by decide)  (fun k3 => ?_) (fun k3 => ?_)
        · have put : ¬ (s_kd s l = 0 ∧ s_wt s l ≠ 0) → z_V K 71 [(0, .ref 1), (1, .int (nI l)), (2, .int (nI p)), (3, .ref (z_pl l))] [] (z_s (s_nl s)) I J 0 0 := by
            intro hn
            have ea : a_wantsN s l p = (1, t_wants s l p) := by
              unfold a_wantsN
              rw [if_neg k2, k3, if_neg Bool.false_ne_true, if_neg hn]
            rw [ea] at X
            refine v_aload_n E dX3_wants_71 rfl ?_
            refine v_dup E dX3_wants_72 rfl ?_
            refine v_getIE E f_X3_81 dX3_wants_73 (v_cc hl) rfl i6 ?_
            refine v_iconst (v := nI 1) E dX3_wants_76 (by decide) ?_
            refine v_iload_n E dX3_wants_77 rfl ?_
            refine v_ishlN E dX3_wants_78 (by omega) ?_
            refine v_iorN E dX3_wants_79 ?_
            refine v_putI E f_X3_81 dX3_wants_80 (v_cc hl) rfl rfl rfl (by decide) ?_
            refine v_iconst (v := nI 1) E dX3_wants_83 (by decide) ?_
            have h37 := z_pl_37 l
            have hfr : lFr (z_pl l) I J (z_u I (z_pl l) 6 (nI (s_wt s l ||| 1 * 2 ^ p))) J := fun q hq => ⟨z_u_row (by omega), rfl⟩
            refine v_iret E X dX3_wants_84 ⟨rfl, rfl, cI_one hc hl rfl rfl rfl hfr (fun _ _ => rfl) (fun j _ hj => ⟨rfl, rfl, rfl, rfl, u_up_ne hj, rfl⟩) ?_, fun q q1 q2 => hfr q (by omega)⟩
            refine ⟨?_, ?_, ?_, ?_, ?_, i7, ?_, ?_, ⟨?_, ?_⟩, ij⟩
            · rw [z_u_col (by decide)]; exact i0
            · rw [z_u_col (by decide)]; exact i3
            · rw [z_u_col (by decide)]; exact i4
            · rw [z_u_col (by decide)]; exact i5
            · rw [z_u_same, Nat.one_mul]
              show _ = nI (va_up (s_wt s) l (s_wt s l ||| 2 ^ p) l)
              rw [u_up_same]
            · rw [z_u_col (by decide)]; exact i8
            · intro k hk; rw [z_u_row (by omega)]; exact ir k hk
            · intro q hq; rw [z_u_row (by omega)]; exact ik.1 q hq
            · rw [z_u_row (by omega)]; exact ik.2
          refine v_aload_n E dX3_wants_54 rfl ?_
          refine v_getIE E f_X3_78 dX3_wants_55 (v_cc hl) rfl i0 ?_
          refine v_if_neN (tgt := 71) E dX3_wants_58 (by decide) (by omega) (fun k4 => ?_) (fun k4 => ?_)
          · exact put (by omega)
          · refine v_aload_n E dX3_wants_61 rfl ?_
            refine v_getIE E f_X3_81 dX3_wants_62 (v_cc hl) rfl i6 ?_
            refine v_if_eqN (tgt := 71) E dX3_wants_65 (by decide) (by omega) (fun k5 => ?_) (fun k5 => ?_)
            · exact put (by omega)
            · refine v_bipush (v := -4) E dX3_wants_68 (by decide) ?_
              exact v_iret E X dX3_wants_70 (cQ.same (by unfold a_wantsN; rw [if_neg k2, k3, if_neg Bool.false_ne_true, if_pos (by omega)]) hc)
        · refine v_iconst (v := nI 0) E dX3_wants_52 (by decide) ?_
          exact v_iret E X dX3_wants_53 (cQ.same (by unfold a_wantsN; rw [if_neg k2, k3]; rfl) hc)
      · refine v_bipush (v := -3) E dX3_wants_38 (by decide) ?_
        exact v_iret E X dX3_wants_40 (cQ.same (by unfold a_wantsN; rw [if_pos k2]) hc)
    · exact no (by rw [e1, e2]; rfl)
theorem m_off (d : Nat) (s : zS) (hw : s_wf s) (I : zI) (J : zJ) (hc : cI s I J) (x y : Int32) : z_C yX3_off cX3_off 5 (some .int) (d + 3) [.ref 1, .int x, .int y] (z_s (s_nl s)) I J 0 0 (cQ (a_off s x y) I J) := by
  have c3 := hc.2.2.1
  have w2 := hw.2.1
  refine z_C.of (by decide) (Nat.le_of_ble_eq_true rfl) fun K E X => ?_
  refine v_aload_n E dX3_off_0 rfl ?_
  refine v_iload_n E dX3_off_1 rfl ?_
  refine v_callV1 E dX3_off_2 k_X3_71 Y_X3_isListener (m_isListener (d + 1) (s_nl s) I J c3 x) rfl rfl rfl (Nat.le_of_ble_eq_true rfl) ?_
  refine v_if_neB (tgt := 10) E dX3_off_5 (by decide)  (fun e1 => ?_) (fun e1 => ?_)
  · have f1 := e1
    obtain ⟨l, hl, rfl⟩ := z_isx_true (by omega) e1
    have ha : a_off s (nI l) y = a_offN s l y := by
      unfold a_off
      rw [f1, nI_clamp (by omega)]
      rfl
    rw [ha] at X
    obtain ⟨b0, b1, b2, b3, b4, b5⟩ := s_lsB hw l
    obtain ⟨i0, i3, i4, i5, i6, i7, i8, ir, ik, ij⟩ := hc.2.2.2.2.2.2.2 l hl
    refine v_aload_n E dX3_off_10 rfl ?_
    refine v_getR E f_X3_16 dX3_off_11 rfl rfl rfl ?_
    refine v_iload_n E dX3_off_14 rfl ?_
    refine v_callV1 E dX3_off_15 k_X3_74 Y_Jx4a65c_get_915e3 (m_get d (s_nl s) I J c3 l hl w2) rfl rfl rfl (Nat.le_of_ble_eq_true rfl) ?_
    refine v_checkcast E dX3_off_18 c_X3_62 (by decide) (v_cc hl) ?_
    refine v_astore_n E dX3_off_21 (by decide) ?_
    refine v_aload_n E dX3_off_22 rfl ?_
    refine v_getIE E f_X3_78 dX3_off_23 (v_cc hl) rfl i0 ?_
    refine v_iconst (v := nI 4) E dX3_off_26 (by decide) ?_
    refine v_icmp_eqN (tgt := 33) E dX3_off_27 (by decide) (by omega) (by omega) (fun k4 => ?_) (fun k4 => ?_)
    · have go : (y = 0 ∨ y = 1) → z_V K 45 [(0, .ref 1), (1, .int (nI l)), (2, .int y), (3, .ref (z_pl l))] [] (z_s (s_nl s)) I J 0 0 := by
        intro hy
        have ea : a_offN s l y = (nI (s_of s l).toNat, t_off s l (decide (y = 1))) := by unfold a_offN; rw [if_pos k4, if_pos hy]
        rw [ea] at X
        refine v_aload_n E dX3_off_45 rfl ?_
        refine v_getIE E f_X3_100 dX3_off_46 (v_cc hl) rfl i8 ?_
        refine v_callS1 E dX3_off_49 k_X3_104 Y_X3_oneIf (m_oneIf (d + 2) (z_s (s_nl s)) I J (s_of s l)) rfl rfl (Nat.le_of_ble_eq_true rfl) ?_
        refine v_istore E dX3_off_52 (by decide) ?_
        refine v_aload_n E dX3_off_54 rfl ?_
        refine v_iload_n E dX3_off_55 rfl ?_
        refine v_iconst (v := nI 1) E dX3_off_56 (by decide) ?_
        have fin : ∀ b : Bool, decide (y = 1) = b → z_V K 65 [(0, .ref 1), (1, .int (nI l)), (2, .int y), (3, .ref (z_pl l)), (4, .int (nI (s_of s l).toNat))] [.int (nI b.toNat), .ref (z_pl l)] (z_s (s_nl s)) I J 0 0 := by
          intro b hb
          refine v_putI E f_X3_100 dX3_off_65 (v_cc hl) rfl ?_ ?_ (by decide) ?_
          · cases b <;> decide +kernel
          · cases b <;> decide +kernel
          refine v_iload E dX3_off_68 rfl ?_
          have h37 := z_pl_37 l
          have hfr : lFr (z_pl l) I J (z_u I (z_pl l) 8 (nI b.toNat)) J := fun q hq => ⟨z_u_row (by omega), rfl⟩
          refine v_iret E X dX3_off_70 ⟨rfl, rfl, cI_one hc hl rfl rfl rfl hfr (fun _ _ => rfl) (fun j _ hj => ⟨rfl, rfl, rfl, rfl, rfl, u_up_ne hj⟩) ?_, fun q q1 q2 => hfr q (by omega)⟩
          refine ⟨?_, ?_, ?_, ?_, ?_, i7, ?_, ?_, ⟨?_, ?_⟩, ij⟩
          · rw [z_u_col (by decide)]; exact i0
          · rw [z_u_col (by decide)]; exact i3
          · rw [z_u_col (by decide)]; exact i4
          · rw [z_u_col (by decide)]; exact i5
          · rw [z_u_col (by decide)]; exact i6
          · rw [z_u_same]
            show _ = nI (va_up (s_of s) l (decide (y = 1)) l).toNat
            rw [u_up_same, hb]
          · intro k hk; rw [z_u_row (by omega)]; exact ir k hk
          · intro q hq; rw [z_u_row (by omega)]; exact ik.1 q hq
          · rw [z_u_row (by omega)]; exact ik.2
        refine v_icmp_ne (tgt := 64) E dX3_off_57 (by decide)  (fun k6 => ?_) (fun k6 => ?_)
        · refine v_iconst (v := nI 0) E dX3_off_64 (by decide) ?_
          exact fin false (decide_eq_false k6)
        · refine v_iconst (v := nI 1) E dX3_off_60 (by decide) ?_
          refine v_goto (tgt := 65) E dX3_off_61 (by decide) ?_
          exact fin true (decide_eq_true k6)
      refine v_iload_n E dX3_off_33 rfl ?_
      refine v_if_eq (tgt := 45) E dX3_off_34 (by decide)  (fun k5 => ?_) (fun k5 => ?_)
      · exact go (Or.inl k5)
      · refine v_iload_n E dX3_off_37 rfl ?_
        refine v_iconst (v := nI 1) E dX3_off_38 (by decide) ?_
        refine v_icmp_eq (tgt := 45) E dX3_off_39 (by decide)  (fun k6 => ?_) (fun k6 => ?_)
        · exact go (Or.inr k6)
        · refine v_bipush (v := -2) E dX3_off_42 (by decide) ?_
          exact v_iret E X dX3_off_44 (cQ.same (by unfold a_offN; rw [if_pos k4, if_neg (fun z => z.elim k5 k6)]) hc)
    · refine v_bipush (v := -3) E dX3_off_30 (by decide) ?_
      exact v_iret E X dX3_off_32 (cQ.same (by unfold a_offN; rw [if_neg k4]) hc)
  · refine v_iconst (v := -1) E dX3_off_8 (by decide) ?_
    exact v_iret E X dX3_off_9 (cQ.same (by unfold a_off; rw [e1]; rfl) hc)
theorem s_nc0_rows {s : zS} (h : s_nc s = 0) (l : Nat) : s_rows s l = s_base s l := by
  show s_rowsAt s l (s_nc s) = _
  rw [h]
  rfl
theorem m_has (d : Nat) (s : zS) (hw : s_wf s) (I : zI) (J : zJ) (hc : cI s I J) (x y : Int32) : z_C yX3_has cX3_has 4 (some .int) (d + 5) [.ref 1, .int x, .int y] (z_s (s_nl s)) I J 0 0 (cQ (a_has s x y) I J) := by
  have c1 := hc.1
  have c2 := hc.2.1
  have c3 := hc.2.2.1
  have w1 := hw.1
  have w2 := hw.2.1
  have w3 := hw.2.2.1
  refine z_C.of (by decide) (Nat.le_of_ble_eq_true rfl) fun K E X => ?_
  refine v_aload_n E dX3_has_0 rfl ?_
  refine v_iload_n E dX3_has_1 rfl ?_
  refine v_callV1 E dX3_has_2 k_X3_71 Y_X3_isListener (m_isListener (d + 3) (s_nl s) I J c3 x) rfl rfl rfl (Nat.le_of_ble_eq_true rfl) ?_
  refine v_if_neB (tgt := 10) E dX3_has_5 (by decide)  (fun e1 => ?_) (fun e1 => ?_)
  · have f1 := e1
    obtain ⟨l, hl, rfl⟩ := z_isx_true (by omega) e1
    have ha : a_has s (nI l) y = if z_msk y (s_np s) then a_hasN s l y.toNatClampNeg else (-2, s) := by
      unfold a_has
      rw [f1, nI_clamp (by omega)]
      rfl
    rw [ha] at X
    have hL := hc.2.2.2.2.2.2.2 l hl
    have hB := s_lsB hw l
    have w6 := hw.2.2.2.2.2.1 l
    refine v_aload_n E dX3_has_10 rfl ?_
    refine v_getR E f_X3_16 dX3_has_11 rfl rfl rfl ?_
    refine v_iload_n E dX3_has_14 rfl ?_
    refine v_callV1 E dX3_has_15 k_X3_74 Y_Jx4a65c_get_915e3 (m_get (d + 2) (s_nl s) I J c3 l hl w2) rfl rfl rfl (Nat.le_of_ble_eq_true rfl) ?_
    refine v_checkcast E dX3_has_18 c_X3_62 (by decide) (v_cc hl) ?_
    refine v_astore_n E dX3_has_21 (by decide) ?_
    refine v_aload_n E dX3_has_22 rfl ?_
    refine v_iload_n E dX3_has_23 rfl ?_
    refine v_callV1 E dX3_has_24 k_X3_88 Y_X3_isMask (m_isMask (d + 3) (s_nl s) (s_np s) I J c1 w1 y) rfl rfl rfl (Nat.le_of_ble_eq_true rfl) ?_
    have no : (if z_msk y (s_np s) then a_hasN s l y.toNatClampNeg else (-2, s)) = (-2, s) → z_V K 38 [(0, .ref 1), (1, .int (nI l)), (2, .int y), (3, .ref (z_pl l))] [] (z_s (s_nl s)) I J 0 0 := by
      intro e
      refine v_bipush (v := -2) E dX3_has_38 (by decide) ?_
      exact v_iret E X dX3_has_40 (cQ.same e hc)
    refine v_if_eqB (tgt := 38) E dX3_has_27 (by decide)  (fun e2 => ?_) (fun e2 => ?_)
    · exact no (by rw [e2]; rfl)
    · obtain ⟨m, hm0, hmp, rfl⟩ := z_msk_true w1 e2
      have hm1 := p2_10 w1 hmp
      have hmay : decide ((s_kd s l = 3 ∨ q_pop m = 1) ∧ ∀ k, k < s_hm s l → l_row (s_rows s l) k ≠ m) = q_may s l m := by
        unfold q_may
        apply decide_eq_decide.mpr
        constructor
        · rintro ⟨h1, h2⟩
          exact ⟨h1, fun k hk => by have := h2 k hk; rw [show s_rows s l = s_rowsAt s l (s_nc s) from rfl, s_row_has hk] at this; exact this⟩
        · rintro ⟨h1, h2⟩
          exact ⟨h1, fun k hk => by rw [show s_rows s l = s_rowsAt s l (s_nc s) from rfl, s_row_has hk]; exact h2 k hk⟩
      have ha2 : (if z_msk (nI m) (s_np s) then a_hasN s l (nI m).toNatClampNeg else (-2, s)) = a_hasN s l m := by
        rw [e2, nI_clamp (by omega)]
        rfl
      rw [ha2] at X no
      refine v_aload_n E dX3_has_30 rfl ?_
      refine v_iload_n E dX3_has_31 rfl ?_
      refine v_callV1 E dX3_has_32 k_X3_91 Y_X1_mayHave (m_mayHave (d + 3) (z_s (s_nl s)) I J (z_pl l) (z_ls hl) hL hB m hm1) (v_cc hl) rfl rfl (Nat.le_of_ble_eq_true rfl) ?_
      rw [hmay]
      refine v_if_neB (tgt := 41) E dX3_has_35 (by decide)  (fun e3 => ?_) (fun e3 => ?_)
      · refine v_aload_n E dX3_has_41 rfl ?_
        refine v_getIE E f_X3_47 dX3_has_42 rfl rfl c2 ?_
        refine v_if_leN (tgt := 51) E dX3_has_45 (by decide) (by omega) (fun e4 => ?_) (fun e4 => ?_)
        · refine v_aload_n E dX3_has_51 rfl ?_
          refine v_getIE E f_X3_94 dX3_has_52 (v_cc hl) rfl hL.2.2.1 ?_
          refine v_bipush (v := nI 12) E dX3_has_55 (by decide) ?_
          refine v_icmp_ltN (tgt := 63) E dX3_has_57 (by decide) (by omega) (by omega) (fun e5 => ?_) (fun e5 => ?_)
          · have ea : a_hasN s l m = (nI (s_hm s l + 1), t_has s l m) := by
              unfold a_hasN
              rw [e3, if_pos rfl, if_neg (by omega), if_neg (by omega)]
            rw [ea] at X
            have hlen : (s_rows s l).length = s_hm s l := by
              rw [s_nc0_rows e4]
              exact r_has_len _ _
            refine v_aload_n E dX3_has_63 rfl ?_
            refine v_iload_n E dX3_has_64 rfl ?_
            refine v_callV E dX3_has_65 k_X3_97 Y_X1_getSum (m_getSum d (z_s (s_nl s)) I J (z_pl l) (z_ls hl) hL hB m hm1 (by omega)) (v_cc hl) rfl rfl (Nat.le_of_ble_eq_true rfl) ?_
            rintro r h' I' J' ⟨rfl, rfl, g1, g2⟩
            refine v_aload_n E dX3_has_68 rfl ?_
            refine v_getIE E f_X3_94 dX3_has_69 (v_cc hl) rfl g1.2.2.1 ?_
            have h37 := z_pl_37 l
            have hrow : ∀ j, s_rows (t_has s l m) j = if j = l then m :: s_rows s j else s_rows s j := by
              intro j
              rw [s_nc0_rows e4, s_nc0_rows (s := t_has s l m) e4]
              exact s_has_base j
            have hhp := s_has_hp (s := s) (l := l) (m := m)
            refine v_iret E X dX3_has_72 ⟨rfl, rfl, cI_one hc hl rfl rfl rfl g2 (fun c hc => absurd hc (by omega)) (fun j _ hj => ⟨rfl, by rw [hrow, if_neg hj], u_up_ne hj, by rw [hhp, if_neg hj], rfl, rfl⟩) ?_, fun q q1 q2 => g2 q (by omega)⟩
            rw [hrow, if_pos rfl, hhp, if_pos rfl]
            have e6 : s_hm (t_has s l m) l = s_hm s l + 1 := u_up_same
            rw [e6]
            exact g1
          · refine v_bipush (v := -4) E dX3_has_60 (by decide) ?_
            exact v_iret E X dX3_has_62 (cQ.same (by unfold a_hasN; rw [e3, if_pos rfl, if_neg (by omega), if_pos (by omega)]) hc)
        · refine v_bipush (v := -5) E dX3_has_48 (by decide) ?_
          exact v_iret E X dX3_has_50 (cQ.same (by unfold a_hasN; rw [e3, if_pos rfl, if_pos (by omega)]) hc)
      · exact no (by unfold a_hasN; rw [e3]; rfl)
  · refine v_iconst (v := -1) E dX3_has_8 (by decide) ?_
    exact v_iret E X dX3_has_9 (cQ.same (by unfold a_has; rw [e1]; rfl) hc)
