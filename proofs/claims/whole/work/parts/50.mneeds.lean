/-! THE MODEL: needs and orders -/
theorem s_lk_bit {s : zS} (hw : s_wf s) (l : Nat) {p : Nat} (hp : p < s_np s) : (s_lk s l).testBit p = !s_out s l p := by
  have w1 := hw.1
  unfold s_lk s_wo
  rw [q_df_bit, Nat.testBit_two_pow_sub_one, decide_eq_true hp, l_wo_sp (rs := s_rows s l) (s_rows_1024 hw l (Nat.le_refl _)), decide_eq_true (by omega : p < 10)]
  rfl
/-- the needs in the model's cells -/
def mnI (L : List (Nat × Nat)) (I : zI) : Prop := I 17 20 = nI L.length ∧ ∀ i, i < L.length → I 31 i = nI (n_w L i) ∧ I 32 i = nI (n_q L i)
def fF (I I' : zI) : Prop := (∀ q, q ≠ 17 → q ≠ 31 → q ≠ 32 → I' q = I q) ∧ ∀ k, k ≠ 20 → I' 17 k = I 17 k
theorem fF.mS {I I' : zI} (h : fF I I') : mS I I' := ⟨fun q a b => h.1 q b (by omega) (by omega), fun k a => h.2 k (by omega)⟩
theorem fF.kA {s : zS} {I I' : zI} (h : fF I I') (hk : kA s I) : kA s I' := fun l hl m hm => by
  rw [h.1 28 (by decide) (by decide) (by decide)]
  exact hk l hl m hm
theorem mnI_put {L : List (Nat × Nat)} {I : zI} {l p : Nat} (h : mnI L I) : mnI (L ++ [(l, p)]) (z_u (z_u (z_u I 31 L.length (nI l)) 32 L.length (nI p)) 17 20 (nI (L.length + 1))) := by
  obtain ⟨h1, h2⟩ := h
  refine ⟨?_, fun i hi => ⟨?_, ?_⟩⟩
  · rw [z_u_same, List.length_append]
    rfl
  · rw [z_u_row (by decide), z_u_row (by decide)]
    by_cases e : i = L.length
    · subst e
      rw [z_u_same, n_w_last.1]
    · rw [List.length_append] at hi
      simp only [List.length_cons, List.length_nil] at hi
      rw [z_u_col e, (n_w_app (by omega)).1]
      exact (h2 i (by omega)).1
  · rw [z_u_row (by decide)]
    by_cases e : i = L.length
    · subst e
      rw [z_u_same, n_w_last.2]
    · rw [List.length_append] at hi
      simp only [List.length_cons, List.length_nil] at hi
      rw [z_u_col e, z_u_row (by decide), (n_w_app (by omega)).2]
      exact (h2 i (by omega)).2
theorem mm_findNeeds (d nl : Nat) (s : zS) (hw : s_wf s) (I : zI) (J : zJ) (hm : mI s I J) : z_C yX4_findNeeds cX4_findNeeds 3 none (d + 3) [.ref 17] (z_s nl) I J 0 0 (fun r h' I' J' => r = none ∧ h' = z_s nl ∧ kA s I' ∧ mnI (s_nd s) I' ∧ mS I I' ∧ J' = J) := by
  have hw0 := hw
  obtain ⟨w1, w2, w3, w4, w5, w6, w7, w8, w9, w10⟩ := hw
  refine z_C.of (by decide) (Nat.le_of_ble_eq_true rfl) fun K E X => ?_
  refine v_aload_n E dX4_findNeeds_0 rfl ?_
  refine v_callV E dX4_findNeeds_1 k_X4_141 Y_X4_knowAll (mm_knowAll d nl s hw0 I J hm) rfl rfl rfl (Nat.le_of_ble_eq_true rfl) ?_
  rintro r h' I1 J1 ⟨rfl, rfl, g1, hS, rfl⟩
  refine v_aload_n E dX4_findNeeds_4 rfl ?_
  refine v_iconst (v := nI 0) E dX4_findNeeds_5 (by decide) ?_
  refine v_putI E f_X4_73 dX4_findNeeds_6 rfl rfl rfl rfl (by decide) ?_
  refine v_iconst (v := nI 0) E dX4_findNeeds_9 (by decide) ?_
  refine v_istore_n E dX4_findNeeds_10 (by decide) ?_
  have loop : ∀ k, k ≤ s_nl s → ∀ I' : zI, mnI (n_l (s_nw s) (s_np s) k) I' → fF I1 I' → z_V K 11 [(0, .ref 17), (1, .int (nI k))] [] (z_s nl) I' J1 0 0 := by
    refine z_for _ ?_ (fun k hk ih => ?_)
    · intro I' h1 h2
      obtain ⟨m1, m2, m3, m4, m5, m6, m7, m8, m9, m10, m11⟩ := (hS.tr h2.mS).mI hm
      refine v_iload_n E dX4_findNeeds_11 rfl ?_
      refine v_aload_n E dX4_findNeeds_12 rfl ?_
      refine v_getIE E f_X4_13 dX4_findNeeds_13 rfl rfl m2 ?_
      refine v_icmp_geN (tgt := 108) E dX4_findNeeds_16 (by decide) (by omega) (by omega) (fun c => ?_) (fun c => ?_)
      · exact v_vret E X dX4_findNeeds_108 ⟨rfl, rfl, h2.kA g1, h1, hS.tr h2.mS, rfl⟩
      · exact absurd c (by omega)
    · intro I' h1 h2
      have m2 := ((hS.tr h2.mS).mI hm).2.1
      refine v_iload_n E dX4_findNeeds_11 rfl ?_
      refine v_aload_n E dX4_findNeeds_12 rfl ?_
      refine v_getIE E f_X4_13 dX4_findNeeds_13 rfl rfl m2 ?_
      refine v_icmp_geN (tgt := 108) E dX4_findNeeds_16 (by decide) (by omega) (by omega) (fun c => ?_) (fun c => ?_)
      · exact absurd c (by omega)
      · refine v_iconst (v := nI 0) E dX4_findNeeds_19 (by decide) ?_
        refine v_istore_n E dX4_findNeeds_20 (by decide) ?_
        have inner : ∀ j, j ≤ s_np s → ∀ I2 : zI, mnI (n_l (s_nw s) (s_np s) k ++ n_p (s_nw s k) k j) I2 → fF I1 I2 → z_V K 21 [(0, .ref 17), (1, .int (nI k)), (2, .int (nI j))] [] (z_s nl) I2 J1 0 0 := by
          refine z_for _ ?_ (fun j hj ih2 => ?_)
          · intro I2 h3 h4
            have m1 := ((hS.tr h4.mS).mI hm).1
            refine v_iload_n E dX4_findNeeds_21 rfl ?_
            refine v_aload_n E dX4_findNeeds_22 rfl ?_
            refine v_getIE E f_X4_7 dX4_findNeeds_23 rfl rfl m1 ?_
            refine v_icmp_geN (tgt := 102) E dX4_findNeeds_26 (by decide) (by omega) (by omega) (fun c9 => ?_) (fun c9 => ?_)
            · refine v_ls (ls2 := [(0, .ref 17), (1, .int (nI k))]) (by intro q hq; simp only [List.mem_cons, List.not_mem_nil, or_false] at hq; rcases hq with rfl | rfl <;> rfl) ?_
              refine v_inc E dX4_findNeeds_102 rfl (by decide) ?_
              refine v_goto (tgt := 11) E dX4_findNeeds_105 (by decide) ?_
              exact ih I2 h3 h4
            · exact absurd c9 (by omega)
          · intro I2 h3 h4
            obtain ⟨m1, m2, m3, m4, m5, m6, m7, m8, m9, m10, m11⟩ := (hS.tr h4.mS).mI hm
            have hkd := w4 k
            have hwt := p2_10 w1 (w5 k)
            have hpp : 2 ^ j < 1024 := p2_10 w1 (Nat.pow_lt_pow_right (by decide) hj)
            have e5 : n_p (s_nw s k) k (j + 1) = if (s_nw s k).testBit j then n_p (s_nw s k) k j ++ [(k, j)] else n_p (s_nw s k) k j := rfl
            have e7 : (s_nw s k).testBit j = ((s_wt s k).testBit j && !s_out s k j) := by
              unfold s_nw
              rw [Nat.testBit_and, s_lk_bit hw0 k hj]
            have no : (s_nw s k).testBit j = false → z_V K 96 [(0, .ref 17), (1, .int (nI k)), (2, .int (nI j))] [] (z_s nl) I2 J1 0 0 := by
              intro e6
              rw [e6] at e5
              refine v_inc E dX4_findNeeds_96 rfl (by decide) ?_
              refine v_goto (tgt := 21) E dX4_findNeeds_99 (by decide) ?_
              exact ih2 I2 (by rw [e5]; exact h3) h4
            refine v_iload_n E dX4_findNeeds_21 rfl ?_
            refine v_aload_n E dX4_findNeeds_22 rfl ?_
            refine v_getIE E f_X4_7 dX4_findNeeds_23 rfl rfl m1 ?_
            refine v_icmp_geN (tgt := 102) E dX4_findNeeds_26 (by decide) (by omega) (by omega) (fun c9 => ?_) (fun c9 => ?_)
            · exact absurd c9 (by omega)
            · refine v_aload_n E dX4_findNeeds_29 rfl ?_
              refine v_getR E f_X4_23 dX4_findNeeds_30 rfl rfl rfl ?_
              refine v_iload_n E dX4_findNeeds_33 rfl ?_
              refine v_ialoadE E dX4_findNeeds_34 rfl rfl (by omega) (by decide) (m5 k hk) ?_
              refine v_iconst (v := nI 2) E dX4_findNeeds_35 (by decide) ?_
              refine v_icmp_eqN (tgt := 96) E dX4_findNeeds_36 (by decide) (by omega) (by omega) (fun c2 => ?_) (fun c2 => ?_)
              · exact no (by rw [e7, w10 k c2, Nat.zero_testBit]; rfl)
              · refine v_aload_n E dX4_findNeeds_39 rfl ?_
                refine v_getR E f_X4_27 dX4_findNeeds_40 rfl rfl rfl ?_
                refine v_iload_n E dX4_findNeeds_43 rfl ?_
                refine v_ialoadE E dX4_findNeeds_44 rfl rfl (by omega) (by decide) (m6 k (by omega)) ?_
                refine v_iload_n E dX4_findNeeds_45 rfl ?_
                refine v_ishrN E dX4_findNeeds_46 (by omega) (by omega) ?_
                refine v_iconst (v := nI 1) E dX4_findNeeds_47 (by decide) ?_
                refine v_iandN E dX4_findNeeds_48 ?_
                refine v_tb ?_
                refine v_if_eqB (tgt := 96) E dX4_findNeeds_49 (by decide)  (fun c3 => ?_) (fun c3 => ?_)
                · exact no (by rw [e7, c3]; rfl)
                · refine v_aload_n E dX4_findNeeds_52 rfl ?_
                  refine v_iload_n E dX4_findNeeds_53 rfl ?_
                  refine v_iconst (v := nI 1) E dX4_findNeeds_54 (by decide) ?_
                  refine v_iload_n E dX4_findNeeds_55 rfl ?_
                  refine v_ishlN E dX4_findNeeds_56 (by omega) ?_
                  refine v_p2 ?_
                  refine v_callV1 E dX4_findNeeds_57 k_X4_124 Y_X4_isOut (mm_isOut (d + 2) nl I2 J1 k (by omega) (h4.kA g1 k hk) (2 ^ j) hpp) rfl rfl rfl (Nat.le_of_ble_eq_true rfl) ?_
                  change z_V K _ _ (.int (nI (s_out s k j).toNat) :: _) _ _ _ _ _
                  refine v_if_eqB (tgt := 66) E dX4_findNeeds_60 (by decide)  (fun c4 => ?_) (fun c4 => ?_)
                  · have e6 : (s_nw s k).testBit j = true := by rw [e7, c3, c4]; rfl
                    rw [e6] at e5
                    have hlen : (n_l (s_nw s) (s_np s) k ++ n_p (s_nw s k) k j).length < 100 := by
                      rw [List.length_append]
                      have l1 := n_l_len (s_nw s) (s_np s) k
                      have l2 := n_p_len (s_nw s k) k j
                      have l3 : s_np s * k ≤ 10 * k := Nat.mul_le_mul_right k w1
                      omega
                    refine v_aload_n E dX4_findNeeds_66 rfl ?_
                    refine v_getR E f_X4_67 dX4_findNeeds_67 rfl rfl rfl ?_
                    refine v_aload_n E dX4_findNeeds_70 rfl ?_
                    refine v_getIE E f_X4_73 dX4_findNeeds_71 rfl rfl h3.1 ?_
                    refine v_iload_n E dX4_findNeeds_74 rfl ?_
                    refine v_iastore E dX4_findNeeds_75 rfl rfl hlen (by decide) ?_
                    refine v_aload_n E dX4_findNeeds_76 rfl ?_
                    refine v_getR E f_X4_70 dX4_findNeeds_77 rfl rfl rfl ?_
                    refine v_aload_n E dX4_findNeeds_80 rfl ?_
                    refine v_getIE E f_X4_73 dX4_findNeeds_81 rfl rfl (z_ur (by decide) h3.1) ?_
                    refine v_iload_n E dX4_findNeeds_84 rfl ?_
                    refine v_iastore E dX4_findNeeds_85 rfl rfl hlen (by decide) ?_
                    refine v_aload_n E dX4_findNeeds_86 rfl ?_
                    refine v_dup E dX4_findNeeds_87 rfl ?_
                    refine v_getIE E f_X4_73 dX4_findNeeds_88 rfl rfl (z_ur (by decide) (z_ur (by decide) h3.1)) ?_
                    refine v_iconst (v := nI 1) E dX4_findNeeds_91 (by decide) ?_
                    refine v_iaddN E dX4_findNeeds_92 ?_
                    refine v_putI E f_X4_73 dX4_findNeeds_93 rfl rfl rfl rfl (by decide) ?_
                    refine v_inc E dX4_findNeeds_96 rfl (by decide) ?_
                    refine v_goto (tgt := 21) E dX4_findNeeds_99 (by decide) ?_
                    refine ih2 _ ?_ ⟨fun q q1 q2 q3 => ?_, fun q q1 => ?_⟩
                    · rw [e5]
                      show mnI (_ ++ (n_p (s_nw s k) k j ++ [(k, j)])) _
                      rw [← List.append_assoc]
                      exact mnI_put h3
                    · rw [z_u_row q1, z_u_row q3, z_u_row q2]
                      exact h4.1 q q1 q2 q3
                    · rw [z_u_col q1, z_u_row (by decide), z_u_row (by decide)]
                      exact h4.2 q q1
                  · refine v_goto (tgt := 96) E dX4_findNeeds_63 (by decide) ?_
                    exact no (by rw [e7, c3, c4]; rfl)
        refine inner 0 (by omega) I' ?_ h2
        show mnI (_ ++ []) I'
        rw [List.append_nil]
        exact h1
  refine loop 0 (by omega) _ ⟨z_u_same, fun i hi => absurd hi (Nat.not_lt_zero _)⟩ ⟨fun q q1 _ _ => z_u_row q1, fun k k1 => z_u_col k1⟩
theorem mm_needs (d nl : Nat) (s : zS) (hw : s_wf s) (I : zI) (J : zJ) (hm : mI s I J) : z_C yX4_needs cX4_needs 1 (some .int) (d + 4) [.ref 17] (z_s nl) I J 0 0 (mR (.int (r_needs s)) nl I J) := by
  refine z_C.of (by decide) (Nat.le_of_ble_eq_true rfl) fun K E X => ?_
  refine v_aload_n E dX4_needs_0 rfl ?_
  refine v_callV E dX4_needs_1 k_X4_148 Y_X4_findNeeds (mm_findNeeds d nl s hw I J hm) rfl rfl rfl (Nat.le_of_ble_eq_true rfl) ?_
  rintro r h' I1 J1 ⟨rfl, rfl, g1, g2, hS, rfl⟩
  refine v_aload_n E dX4_needs_4 rfl ?_
  refine v_getIE E f_X4_73 dX4_needs_5 rfl rfl g2.1 ?_
  exact v_iret E X dX4_needs_8 (mR.e rfl hS)
theorem mm_need (d nl : Nat) (s : zS) (hw : s_wf s) (I : zI) (J : zJ) (hm : mI s I J) (x y : Int32) : z_C yX4_need cX4_need 3 (some .int) (d + 4) [.ref 17, .int x, .int y] (z_s nl) I J 0 0 (mR (.int (r_need s x y)) nl I J) := by
  have h100 := s_nd_len hw
  refine z_C.of (by decide) (Nat.le_of_ble_eq_true rfl) fun K E X => ?_
  refine v_aload_n E dX4_need_0 rfl ?_
  refine v_callV E dX4_need_1 k_X4_148 Y_X4_findNeeds (mm_findNeeds d nl s hw I J hm) rfl rfl rfl (Nat.le_of_ble_eq_true rfl) ?_
  rintro r h' I1 J1 ⟨rfl, rfl, g1, g2, hS, rfl⟩
  have no : r_need s x y = -1 → z_V K 25 [(0, .ref 17), (1, .int x), (2, .int y)] [] (z_s nl) I1 J1 0 0 := by
    intro e
    refine v_iconst (v := -1) E dX4_need_25 (by decide) ?_
    exact v_iret E X dX4_need_26 (mR.e e.symm hS)
  have n1 : z_isx x (s_nd s).length = false → r_need s x y = -1 := by
    intro e
    unfold r_need
    rw [e]
    rfl
  refine v_iload_n E dX4_need_4 rfl ?_
  refine v_if_lt (tgt := 25) E dX4_need_5 (by decide)  (fun c => ?_) (fun c => ?_)
  · exact no (n1 (decide_eq_false (fun z => z.1 c)))
  · refine v_iload_n E dX4_need_8 rfl ?_
    refine v_aload_n E dX4_need_9 rfl ?_
    refine v_getIE E f_X4_73 dX4_need_10 rfl rfl g2.1 ?_
    refine v_icmp_ge (tgt := 25) E dX4_need_13 (by decide)  (fun c1 => ?_) (fun c1 => ?_)
    · exact no (n1 (decide_eq_false (fun z => absurd z.2 (Int32.not_lt.mpr c1))))
    · have e : z_isx x (s_nd s).length = true := decide_eq_true ⟨c, Int32.not_le.mp c1⟩
      have f := e
      obtain ⟨i, hi, rfl⟩ := z_isx_true (by omega) e
      have hr : r_need s (nI i) y = if y = 0 then nI (n_w (s_nd s) i) else if y = 1 then nI (n_q (s_nd s) i) else -1 := by
        unfold r_need
        rw [f, if_pos rfl, nI_clamp (by omega)]
      refine v_iload_n E dX4_need_16 rfl ?_
      refine v_if_lt (tgt := 25) E dX4_need_17 (by decide)  (fun c2 => ?_) (fun c2 => ?_)
      · exact no (by rw [hr, if_neg (fun z => by rw [z] at c2; exact absurd c2 (by decide)), if_neg (fun z => by rw [z] at c2; exact absurd c2 (by decide))])
      · refine v_iload_n E dX4_need_20 rfl ?_
        refine v_iconst (v := nI 1) E dX4_need_21 (by decide) ?_
        have hx := z_isx_le (x := y) (n := 1) (by decide)
        refine v_icmp_le (tgt := 27) E dX4_need_22 (by decide)  (fun c3 => ?_) (fun c3 => ?_)
        · have e4 : z_isx y 2 = true := by rw [hx]; exact decide_eq_true ⟨c2, c3⟩
          obtain ⟨w, hw1, rfl⟩ := z_isx_true (by omega) e4
          rcases (by omega : w = 0 ∨ w = 1) with rfl | rfl
          · refine v_iload_n E dX4_need_27 rfl ?_
            refine v_if_neN (tgt := 40) E dX4_need_28 (by decide) (by omega) (fun c4 => ?_) (fun c4 => ?_)
            · exact absurd c4 (by omega)
            · refine v_aload_n E dX4_need_31 rfl ?_
              refine v_getR E f_X4_67 dX4_need_32 rfl rfl rfl ?_
              refine v_iload_n E dX4_need_35 rfl ?_
              refine v_ialoadE E dX4_need_36 rfl rfl (by omega) (by decide) (g2.2 i hi).1 ?_
              refine v_goto (tgt := 46) E dX4_need_37 (by decide) ?_
              exact v_iret E X dX4_need_46 (mR.e (by rw [hr]; rfl) hS)
          · refine v_iload_n E dX4_need_27 rfl ?_
            refine v_if_neN (tgt := 40) E dX4_need_28 (by decide) (by omega) (fun c4 => ?_) (fun c4 => ?_)
            · refine v_aload_n E dX4_need_40 rfl ?_
              refine v_getR E f_X4_70 dX4_need_41 rfl rfl rfl ?_
              refine v_iload_n E dX4_need_44 rfl ?_
              refine v_ialoadE E dX4_need_45 rfl rfl (by omega) (by decide) (g2.2 i hi).2 ?_
              exact v_iret E X dX4_need_46 (mR.e (by rw [hr]; rfl) hS)
            · exact absurd c4 (by omega)
        · exact no (by rw [hr, if_neg (fun z => by rw [z] at c3; exact absurd (by decide) c3), if_neg (fun z => by rw [z] at c3; exact absurd (by decide) c3)])
/-- with the needs found -/
def mN (s : zS) (I : zI) : Prop := kA s I ∧ mnI (s_nd s) I
def fB (I I' : zI) : Prop := ∀ q, q ≠ 33 → q ≠ 34 → I' q = I q
theorem fB.mN {s : zS} {I I' : zI} (h : fB I I') (hn : mN s I) : mN s I' := by
  refine ⟨fun l hl m hm => ?_, ?_, fun i hi => ⟨?_, ?_⟩⟩
  · rw [h 28 (by decide) (by decide)]; exact hn.1 l hl m hm
  · rw [h 17 (by decide) (by decide)]; exact hn.2.1
  · rw [h 31 (by decide) (by decide)]; exact (hn.2.2 i hi).1
  · rw [h 32 (by decide) (by decide)]; exact (hn.2.2 i hi).2
theorem fB.mS {I I' : zI} (h : fB I I') : mS I I' := ⟨fun q a b => h q (by omega) (by omega), fun k _ => by rw [h 17 (by decide) (by decide)]⟩
theorem s_pt_bit {s : zS} (hw : s_wf s) {i j : Nat} (hj : j < (s_nd s).length) : (s_pt s i).testBit j = (decide (n_q (s_nd s) i ≠ n_q (s_nd s) j) && !s_out s (n_w (s_nd s) i) (n_q (s_nd s) j)) := by
  unfold s_pt
  rw [o_m_bit, decide_eq_true hj, s_lk_bit hw _ (s_nd_at hj).2.1]
  rfl
theorem mm_mayFollow (d nl : Nat) (s : zS) (hw : s_wf s) (I : zI) (J : zJ) (hN : mN s I) (i j : Nat) (hi : i < (s_nd s).length) (hj : j < (s_nd s).length) : z_C yX4_mayFollow cX4_mayFollow 3 (some .boolean) (d + 1) [.ref 17, .int (nI i), .int (nI j)] (z_s nl) I J 0 0 (z_q (some (.int (nI ((s_pt s i).testBit j).toNat))) (z_s nl) I J) := by
  have h100 := s_nd_len hw
  have w1 := hw.1
  have w2 := hw.2.1
  have hp := s_pt_bit hw (i := i) hj
  obtain ⟨a1, a2, a3⟩ := s_nd_at hi
  obtain ⟨b1, b2, b3⟩ := s_nd_at hj
  obtain ⟨i1, i2⟩ := hN.2.2 i hi
  obtain ⟨j1, j2⟩ := hN.2.2 j hj
  have hpp : 2 ^ n_q (s_nd s) j < 1024 := p2_10 w1 (Nat.pow_lt_pow_right (by decide) b2)
  refine z_C.of (by decide) (Nat.le_of_ble_eq_true rfl) fun K E X => ?_
  have no : (s_pt s i).testBit j = false → z_V K 45 [(0, .ref 17), (1, .int (nI i)), (2, .int (nI j))] [] (z_s nl) I J 0 0 := by
    intro e
    refine v_iconst (v := nI 0) E dX4_mayFollow_45 (by decide) ?_
    exact v_zret E X dX4_mayFollow_46 (by first | exact Or.inl rfl | exact Or.inr rfl) (z_qi (by rw [e]; rfl))
  refine v_iload_n E dX4_mayFollow_0 rfl ?_
  refine v_iload_n E dX4_mayFollow_1 rfl ?_
  refine v_icmp_eqN (tgt := 45) E dX4_mayFollow_2 (by decide) (by omega) (by omega) (fun c => ?_) (fun c => ?_)
  · exact no (by rw [hp, c, decide_eq_false (fun z => z rfl)]; rfl)
  · refine v_aload_n E dX4_mayFollow_5 rfl ?_
    refine v_getR E f_X4_70 dX4_mayFollow_6 rfl rfl rfl ?_
    refine v_iload_n E dX4_mayFollow_9 rfl ?_
    refine v_ialoadE E dX4_mayFollow_10 rfl rfl (by omega) (by decide) i2 ?_
    refine v_aload_n E dX4_mayFollow_11 rfl ?_
    refine v_getR E f_X4_70 dX4_mayFollow_12 rfl rfl rfl ?_
    refine v_iload_n E dX4_mayFollow_15 rfl ?_
    refine v_ialoadE E dX4_mayFollow_16 rfl rfl (by omega) (by decide) j2 ?_
    refine v_icmp_eqN (tgt := 45) E dX4_mayFollow_17 (by decide) (by omega) (by omega) (fun c1 => ?_) (fun c1 => ?_)
    · exact no (by rw [hp, decide_eq_false (fun z => z c1)]; rfl)
    · refine v_aload_n E dX4_mayFollow_20 rfl ?_
      refine v_aload_n E dX4_mayFollow_21 rfl ?_
      refine v_getR E f_X4_67 dX4_mayFollow_22 rfl rfl rfl ?_
      refine v_iload_n E dX4_mayFollow_25 rfl ?_
      refine v_ialoadE E dX4_mayFollow_26 rfl rfl (by omega) (by decide) i1 ?_
      refine v_iconst (v := nI 1) E dX4_mayFollow_27 (by decide) ?_
      refine v_aload_n E dX4_mayFollow_28 rfl ?_
      refine v_getR E f_X4_70 dX4_mayFollow_29 rfl rfl rfl ?_
      refine v_iload_n E dX4_mayFollow_32 rfl ?_
      refine v_ialoadE E dX4_mayFollow_33 rfl rfl (by omega) (by decide) j2 ?_
      refine v_ishlN E dX4_mayFollow_34 (by omega) ?_
      refine v_p2 ?_
      refine v_callV1 E dX4_mayFollow_35 k_X4_124 Y_X4_isOut (mm_isOut d nl I J (n_w (s_nd s) i) (by omega) (hN.1 _ a1) (2 ^ n_q (s_nd s) j) hpp) rfl rfl rfl (Nat.le_of_ble_eq_true rfl) ?_
      change z_V K _ _ (.int (nI (s_out s (n_w (s_nd s) i) (n_q (s_nd s) j)).toNat) :: _) _ _ _ _ _
      refine v_if_neB (tgt := 45) E dX4_mayFollow_38 (by decide)  (fun c2 => ?_) (fun c2 => ?_)
      · exact no (by rw [hp, c2, Bool.not_true, Bool.and_false])
      · refine v_iconst (v := nI 1) E dX4_mayFollow_41 (by decide) ?_
        refine v_goto (tgt := 46) E dX4_mayFollow_42 (by decide) ?_
        exact v_zret E X dX4_mayFollow_46 (by first | exact Or.inl rfl | exact Or.inr rfl) (z_qi (by rw [hp, c2, decide_eq_true c1]; rfl))
theorem mm_behind (d nl : Nat) (s : zS) (hw : s_wf s) (I : zI) (J : zJ) (hN : mN s I) (h10 : (s_nd s).length ≤ 10) (set : Nat) (hs : set < 2 ^ (s_nd s).length) (i : Nat) (hi : i < (s_nd s).length) : z_C yX4_behind cX4_behind 5 (some .int) (d + 2) [.ref 17, .int (nI set), .int (nI i)] (z_s nl) I J 0 0 (z_q (some (.int (nI (set &&& s_pt s i)))) (z_s nl) I J) := by
  have hs1 := p2_10 h10 hs
  have key : o_m (fun j => set.testBit j && (s_pt s i).testBit j) (s_nd s).length = set &&& s_pt s i := by
    apply Nat.eq_of_testBit_eq
    intro j
    rw [o_m_bit, Nat.testBit_and]
    by_cases e : j < (s_nd s).length
    · rw [decide_eq_true e]; rfl
    · rw [q_hi hs (by omega)]; simp
  refine z_C.of (by decide) (Nat.le_of_ble_eq_true rfl) fun K E X => ?_
  refine v_iconst (v := nI 0) E dX4_behind_0 (by decide) ?_
  refine v_istore_n E dX4_behind_1 (by decide) ?_
  refine v_iconst (v := nI 0) E dX4_behind_2 (by decide) ?_
  refine v_istore E dX4_behind_3 (by decide) ?_
  have loop : ∀ k, k ≤ (s_nd s).length → z_V K 5 [(0, .ref 17), (1, .int (nI set)), (2, .int (nI i)), (3, .int (nI (o_m (fun j => set.testBit j && (s_pt s i).testBit j) k))), (4, .int (nI k))] [] (z_s nl) I J 0 0 := by
    refine z_for _ ?_ (fun k hk ih => ?_)
    · refine v_iload E dX4_behind_5 rfl ?_
      refine v_aload_n E dX4_behind_7 rfl ?_
      refine v_getIE E f_X4_73 dX4_behind_8 rfl rfl hN.2.1 ?_
      refine v_icmp_geN (tgt := 47) E dX4_behind_11 (by decide) (by omega) (by omega) (fun c => ?_) (fun c => ?_)
      · refine v_iload_n E dX4_behind_47 rfl ?_
        exact v_iret E X dX4_behind_48 (z_qi (by rw [key]))
      · exact absurd c (by omega)
    · have e : o_m (fun j => set.testBit j && (s_pt s i).testBit j) (k + 1) = if (set.testBit k && (s_pt s i).testBit k) then o_m (fun j => set.testBit j && (s_pt s i).testBit j) k ||| 2 ^ k else o_m (fun j => set.testBit j && (s_pt s i).testBit j) k := rfl
      have no : (set.testBit k && (s_pt s i).testBit k) = false → z_V K 41 [(0, .ref 17), (1, .int (nI set)), (2, .int (nI i)), (3, .int (nI (o_m (fun j => set.testBit j && (s_pt s i).testBit j) k))), (4, .int (nI k))] [] (z_s nl) I J 0 0 := by
        intro e2
        rw [e2] at e
        rw [e] at ih
        refine v_inc E dX4_behind_41 rfl (by decide) ?_
        refine v_goto (tgt := 5) E dX4_behind_44 (by decide) ?_
        exact ih
      refine v_iload E dX4_behind_5 rfl ?_
      refine v_aload_n E dX4_behind_7 rfl ?_
      refine v_getIE E f_X4_73 dX4_behind_8 rfl rfl hN.2.1 ?_
      refine v_icmp_geN (tgt := 47) E dX4_behind_11 (by decide) (by omega) (by omega) (fun c => ?_) (fun c => ?_)
      · exact absurd c (by omega)
      · refine v_iload_n E dX4_behind_14 rfl ?_
        refine v_iload E dX4_behind_15 rfl ?_
        refine v_ishrN E dX4_behind_17 (by omega) (by omega) ?_
        refine v_iconst (v := nI 1) E dX4_behind_18 (by decide) ?_
        refine v_iandN E dX4_behind_19 ?_
        refine v_tb ?_
        refine v_iconst (v := nI 1) E dX4_behind_20 (by decide) ?_
        refine v_icmp_neB (tgt := 41) E dX4_behind_21 (by decide)  (fun c2 => ?_) (fun c2 => ?_)
        · exact no (by rw [c2]; rfl)
        · refine v_aload_n E dX4_behind_24 rfl ?_
          refine v_iload_n E dX4_behind_25 rfl ?_
          refine v_iload E dX4_behind_26 rfl ?_
          refine v_callV1 E dX4_behind_28 k_X4_151 Y_X4_mayFollow (mm_mayFollow d nl s hw I J hN i k hi hk) rfl rfl rfl (Nat.le_of_ble_eq_true rfl) ?_
          refine v_if_eqB (tgt := 41) E dX4_behind_31 (by decide)  (fun c3 => ?_) (fun c3 => ?_)
          · exact no (by rw [c3, Bool.and_false])
          · rw [c2, c3] at e
            rw [e] at ih
            refine v_iload_n E dX4_behind_34 rfl ?_
            refine v_iconst (v := nI 1) E dX4_behind_35 (by decide) ?_
            refine v_iload E dX4_behind_36 rfl ?_
            refine v_ishlN E dX4_behind_38 (by omega) ?_
            refine v_p2 ?_
            refine v_iorN E dX4_behind_39 ?_
            refine v_istore_n E dX4_behind_40 (by decide) ?_
            refine v_inc E dX4_behind_41 rfl (by decide) ?_
            refine v_goto (tgt := 5) E dX4_behind_44 (by decide) ?_
            exact ih
  exact loop 0 (by omega)
/-- the model's table of orders -/
def moI (s : zS) (I : zI) : Prop := ∀ j, j < 2 ^ (s_nd s).length → I 33 j = nI (o_T (s_pt s) (s_nd s).length j)
theorem mm_orders (d nl : Nat) (s : zS) (hw : s_wf s) (I : zI) (J : zJ) (hN : mN s I) (h10 : (s_nd s).length ≤ 10) : z_C yX4_orders cX4_orders 4 none (d + 3) [.ref 17] (z_s nl) I J 0 0 (fun r h' I' J' => r = none ∧ h' = z_s nl ∧ moI s I' ∧ fB I I' ∧ J' = J) := by
  have hn2 := p2n h10
  have hirr := s_pt_irr s
  refine z_C.of (by decide) (Nat.le_of_ble_eq_true rfl) fun K E X => ?_
  refine v_iconst (v := nI 0) E dX4_orders_0 (by decide) ?_
  refine v_istore_n E dX4_orders_1 (by decide) ?_
  have loop : ∀ k, k ≤ 2 ^ (s_nd s).length → ∀ I', (∀ j, j < k → I' 33 j = nI (o_T (s_pt s) (s_nd s).length j)) → fB I I' → ∀ lr, z_V K 2 ([(0, .ref 17), (1, .int (nI k))] ++ lr) [] (z_s nl) I' J 0 0 := by
    refine z_for _ ?_ (fun k hk ih => ?_)
    · intro I' h1 h2 lr
      refine v_ls (ls2 := [(0, .ref 17), (1, .int (nI (2 ^ (s_nd s).length)))]) (by intro q hq; simp only [List.mem_cons, List.not_mem_nil, or_false] at hq; rcases hq with rfl | rfl <;> rfl) ?_
      refine v_iload_n E dX4_orders_2 rfl ?_
      refine v_iconst (v := nI 1) E dX4_orders_3 (by decide) ?_
      refine v_aload_n E dX4_orders_4 rfl ?_
      refine v_getIE E f_X4_73 dX4_orders_5 rfl rfl (h2.mN hN).2.1 ?_
      refine v_ishlN E dX4_orders_8 (by omega) ?_
      refine v_p2 ?_
      refine v_icmp_geN (tgt := 92) E dX4_orders_9 (by decide) (by omega) (by omega) (fun c => ?_) (fun c => ?_)
      · exact v_vret E X dX4_orders_92 ⟨rfl, rfl, h1, h2, rfl⟩
      · exact absurd c (by omega)
    · intro I' h1 h2 lr
      refine v_ls (ls2 := [(0, .ref 17), (1, .int (nI k))]) (by intro q hq; simp only [List.mem_cons, List.not_mem_nil, or_false] at hq; rcases hq with rfl | rfl <;> rfl) ?_
      refine v_iload_n E dX4_orders_2 rfl ?_
      refine v_iconst (v := nI 1) E dX4_orders_3 (by decide) ?_
      refine v_aload_n E dX4_orders_4 rfl ?_
      refine v_getIE E f_X4_73 dX4_orders_5 rfl rfl (h2.mN hN).2.1 ?_
      refine v_ishlN E dX4_orders_8 (by omega) ?_
      refine v_p2 ?_
      refine v_icmp_geN (tgt := 92) E dX4_orders_9 (by decide) (by omega) (by omega) (fun c => ?_) (fun c => ?_)
      · exact absurd c (by omega)
      · refine v_aload_n E dX4_orders_12 rfl ?_
        refine v_getR E f_X4_76 dX4_orders_13 rfl rfl rfl ?_
        refine v_iload_n E dX4_orders_16 rfl ?_
        refine v_iconst (v := nI 0) E dX4_orders_17 (by decide) ?_
        refine v_iastore E dX4_orders_18 rfl rfl (by omega) (by decide) ?_
        refine v_iconst (v := nI 0) E dX4_orders_19 (by decide) ?_
        refine v_istore_n E dX4_orders_20 (by decide) ?_
        have inner : ∀ i, i ≤ (s_nd s).length → ∀ I2, (∀ j, j < k → I2 33 j = nI (o_T (s_pt s) (s_nd s).length j)) → I2 33 k = nI (o_mx (s_pt s) (o_T (s_pt s) (s_nd s).length) k i) → fB I I2 → ∀ lr, z_V K 21 ([(0, .ref 17), (1, .int (nI k)), (2, .int (nI i))] ++ lr) [] (z_s nl) I2 J 0 0 := by
          refine z_for _ ?_ (fun i hi ih2 => ?_)
          · intro I2 h3 h4 h5 lr
            refine v_ls (ls2 := [(0, .ref 17), (1, .int (nI k)), (2, .int (nI (s_nd s).length))]) (by intro q hq; simp only [List.mem_cons, List.not_mem_nil, or_false] at hq; rcases hq with rfl | rfl | rfl <;> rfl) ?_
            refine v_iload_n E dX4_orders_21 rfl ?_
            refine v_aload_n E dX4_orders_22 rfl ?_
            refine v_getIE E f_X4_73 dX4_orders_23 rfl rfl (h5.mN hN).2.1 ?_
            refine v_icmp_geN (tgt := 86) E dX4_orders_26 (by decide) (by omega) (by omega) (fun c2 => ?_) (fun c2 => ?_)
            · refine v_inc E dX4_orders_86 rfl (by decide) ?_
              refine v_goto (tgt := 2) E dX4_orders_89 (by decide) ?_
              refine ih I2 (fun j hj => ?_) h5 [(2, .int (nI (s_nd s).length))]
              by_cases e : j = k
              · subst e
                rw [h4, ← o_T_rec hirr]
              · exact h3 j (by omega)
            · exact absurd c2 (by omega)
          · intro I2 h3 h4 h5 lr
            refine v_ls (ls2 := [(0, .ref 17), (1, .int (nI k)), (2, .int (nI i))]) (by intro q hq; simp only [List.mem_cons, List.not_mem_nil, or_false] at hq; rcases hq with rfl | rfl | rfl <;> rfl) ?_
            have hN2 := h5.mN hN
            have e : o_mx (s_pt s) (o_T (s_pt s) (s_nd s).length) k (i + 1) = if k.testBit i then max (o_mx (s_pt s) (o_T (s_pt s) (s_nd s).length) k i) (1 + o_T (s_pt s) (s_nd s).length (k &&& s_pt s i)) else o_mx (s_pt s) (o_T (s_pt s) (s_nd s).length) k i := rfl
            refine v_iload_n E dX4_orders_21 rfl ?_
            refine v_aload_n E dX4_orders_22 rfl ?_
            refine v_getIE E f_X4_73 dX4_orders_23 rfl rfl hN2.2.1 ?_
            refine v_icmp_geN (tgt := 86) E dX4_orders_26 (by decide) (by omega) (by omega) (fun c2 => ?_) (fun c2 => ?_)
            · exact absurd c2 (by omega)
            · refine v_iload_n E dX4_orders_29 rfl ?_
              refine v_iload_n E dX4_orders_30 rfl ?_
              refine v_ishrN E dX4_orders_31 (by omega) (by omega) ?_
              refine v_iconst (v := nI 1) E dX4_orders_32 (by decide) ?_
              refine v_iandN E dX4_orders_33 ?_
              refine v_tb ?_
              refine v_if_neB (tgt := 40) E dX4_orders_34 (by decide)  (fun c3 => ?_) (fun c3 => ?_)
              · have hb : k &&& s_pt s i < k := q_and_lts c3 (hirr i hi)
                have hT := o_T_le hirr (k &&& s_pt s i)
                have hX := o_mx_leK (t := o_T (s_pt s) (s_nd s).length) (set := k) (fun i _ _ => o_T_le hirr _) hirr i (by omega)
                rw [if_pos c3] at e
                refine v_iconst (v := nI 1) E dX4_orders_40 (by decide) ?_
                refine v_aload_n E dX4_orders_41 rfl ?_
                refine v_getR E f_X4_76 dX4_orders_42 rfl rfl rfl ?_
                refine v_aload_n E dX4_orders_45 rfl ?_
                refine v_iload_n E dX4_orders_46 rfl ?_
                refine v_iload_n E dX4_orders_47 rfl ?_
                refine v_callV1 E dX4_orders_48 k_X4_154 Y_X4_behind (mm_behind d nl s hw I2 J hN2 h10 k hk i hi) rfl rfl rfl (Nat.le_of_ble_eq_true rfl) ?_
                refine v_ialoadE E dX4_orders_51 rfl rfl (by omega) (by decide) (h3 _ hb) ?_
                refine v_iaddN E dX4_orders_52 ?_
                refine v_istore_n E dX4_orders_53 (by decide) ?_
                refine v_aload_n E dX4_orders_54 rfl ?_
                refine v_getR E f_X4_76 dX4_orders_55 rfl rfl rfl ?_
                refine v_iload_n E dX4_orders_58 rfl ?_
                refine v_iload_n E dX4_orders_59 rfl ?_
                refine v_aload_n E dX4_orders_60 rfl ?_
                refine v_getR E f_X4_76 dX4_orders_61 rfl rfl rfl ?_
                refine v_iload_n E dX4_orders_64 rfl ?_
                refine v_ialoadE E dX4_orders_65 rfl rfl (by omega) (by decide) h4 ?_
                have fin : ∀ v, v = max (o_mx (s_pt s) (o_T (s_pt s) (s_nd s).length) k i) (1 + o_T (s_pt s) (s_nd s).length (k &&& s_pt s i)) → z_V K 79 [(0, .ref 17), (1, .int (nI k)), (2, .int (nI i)), (3, .int (nI (1 + o_T (s_pt s) (s_nd s).length (k &&& s_pt s i))))] [.int (nI v), .int (nI k), .ref 33] (z_s nl) I2 J 0 0 := by
                  rintro v rfl
                  refine v_iastore E dX4_orders_79 rfl rfl (by omega) (by decide) ?_
                  refine v_inc E dX4_orders_80 rfl (by decide) ?_
                  refine v_goto (tgt := 21) E dX4_orders_83 (by decide) ?_
                  refine ih2 _ (fun j hj => ?_) ?_ (fun q q1 q2 => ?_) [(3, .int (nI (1 + o_T (s_pt s) (s_nd s).length (k &&& s_pt s i))))]
                  · rw [z_u_col (by omega)]; exact h3 j hj
                  · rw [z_u_same, e]
                  · rw [z_u_row q1]; exact h5 q q1 q2
                refine v_icmp_leN (tgt := 73) E dX4_orders_66 (by decide) (by omega) (by omega) (fun c4 => ?_) (fun c4 => ?_)
                · refine v_aload_n E dX4_orders_73 rfl ?_
                  refine v_getR E f_X4_76 dX4_orders_74 rfl rfl rfl ?_
                  refine v_iload_n E dX4_orders_77 rfl ?_
                  refine v_ialoadE E dX4_orders_78 rfl rfl (by omega) (by decide) h4 ?_
                  exact fin _ (by omega)
                · refine v_iload_n E dX4_orders_69 rfl ?_
                  refine v_goto (tgt := 79) E dX4_orders_70 (by decide) ?_
                  exact fin _ (by omega)
              · rw [c3] at e
                refine v_goto (tgt := 80) E dX4_orders_37 (by decide) ?_
                refine v_inc E dX4_orders_80 rfl (by decide) ?_
                refine v_goto (tgt := 21) E dX4_orders_83 (by decide) ?_
                exact ih2 I2 h3 (by rw [e]; exact h4) h5 []
        refine inner 0 (by omega) _ (fun j hj => ?_) z_u_same (fun q q1 q2 => ?_) []
        · rw [z_u_col (by omega)]; exact h1 j hj
        · rw [z_u_row q1]; exact h2 q q1 q2
  exact loop 0 (Nat.zero_le _) I (fun j hj => absurd hj (Nat.not_lt_zero j)) (fun q _ _ => rfl) []
theorem mm_below (d nl : Nat) (s : zS) (hw : s_wf s) (I : zI) (J : zJ) (hm : mI s I J) : z_C yX4_below cX4_below 1 (some .int) (d + 4) [.ref 17] (z_s nl) I J 0 0 (mR (.int (r_below s)) nl I J) := by
  have h100 := s_nd_len hw
  refine z_C.of (by decide) (Nat.le_of_ble_eq_true rfl) fun K E X => ?_
  refine v_aload_n E dX4_below_0 rfl ?_
  refine v_callV E dX4_below_1 k_X4_148 Y_X4_findNeeds (mm_findNeeds d nl s hw I J hm) rfl rfl rfl (Nat.le_of_ble_eq_true rfl) ?_
  rintro r h' I1 J1 ⟨rfl, rfl, g1, g2, hS, rfl⟩
  refine v_aload_n E dX4_below_4 rfl ?_
  refine v_getIE E f_X4_73 dX4_below_5 rfl rfl g2.1 ?_
  refine v_bipush (v := nI 10) E dX4_below_8 (by decide) ?_
  refine v_icmp_leN (tgt := 16) E dX4_below_10 (by decide) (by omega) (by omega) (fun c => ?_) (fun c => ?_)
  · have hn2 := p2n c
    have hp0 := Nat.two_pow_pos (s_nd s).length
    refine v_aload_n E dX4_below_16 rfl ?_
    refine v_callV E dX4_below_17 k_X4_158 Y_X4_orders (mm_orders d nl s hw I1 J1 ⟨g1, g2⟩ c) rfl rfl rfl (Nat.le_of_ble_eq_true rfl) ?_
    rintro r h' I2 J2 ⟨rfl, rfl, k1, k2, rfl⟩
    refine v_aload_n E dX4_below_20 rfl ?_
    refine v_getR E f_X4_76 dX4_below_21 rfl rfl rfl ?_
    refine v_iconst (v := nI 1) E dX4_below_24 (by decide) ?_
    refine v_aload_n E dX4_below_25 rfl ?_
    refine v_getIE E f_X4_73 dX4_below_26 rfl rfl (k2.mN ⟨g1, g2⟩).2.1 ?_
    refine v_ishlN E dX4_below_29 (by omega) ?_
    refine v_p2 ?_
    refine v_iconst (v := nI 1) E dX4_below_30 (by decide) ?_
    refine v_isubN E dX4_below_31 (by omega) ?_
    refine v_ialoadE E dX4_below_32 rfl rfl (by omega) (by decide) (k1 _ (by omega)) ?_
    exact v_iret E X dX4_below_33 (mR.e (by unfold r_below; rw [if_pos c]; rfl) (hS.tr k2.mS))
  · refine v_bipush (v := -5) E dX4_below_13 (by decide) ?_
    exact v_iret E X dX4_below_15 (mR.e (by unfold r_below; rw [if_neg (by omega)]) hS)
theorem o_mx_ex {pt t : Nat → Nat} {set : Nat} : ∀ k, o_mx pt t set k = 0 ∨ ∃ i, i < k ∧ set.testBit i = true ∧ 1 + t (set &&& pt i) = o_mx pt t set k
  | 0 => Or.inl rfl
  | k + 1 => by
    simp only [o_mx]
    by_cases h : set.testBit k = true
    · rw [if_pos h]
      right
      by_cases h2 : o_mx pt t set k ≤ 1 + t (set &&& pt k)
      · exact ⟨k, by omega, h, by omega⟩
      · rcases o_mx_ex (pt := pt) (t := t) (set := set) k with h3 | ⟨i, h3, h4, h5⟩
        · omega
        · exact ⟨i, by omega, h4, by omega⟩
    · rw [if_neg h]
      rcases o_mx_ex (pt := pt) (t := t) (set := set) k with h3 | ⟨i, h3, h4, h5⟩
      · exact Or.inl h3
      · exact Or.inr ⟨i, by omega, h4, h5⟩
theorem o_mx_ge {pt t : Nat → Nat} {set i : Nat} (hb : set.testBit i = true) : ∀ k, i < k → 1 + t (set &&& pt i) ≤ o_mx pt t set k
  | k + 1, h => by
    simp only [o_mx]
    by_cases e : i = k
    · subst e
      rw [if_pos hb]
      omega
    · have ih := o_mx_ge (pt := pt) (t := t) hb k (by omega)
      split <;> omega
theorem o_1st_spec {pt : Nat → Nat} {n set : Nat} (hp : o_irr pt n) (h0 : 0 < o_T pt n set) : o_1st pt n set < n ∧ set.testBit (o_1st pt n set) = true ∧ 1 + o_T pt n (set &&& pt (o_1st pt n set)) = o_T pt n set ∧ ∀ i, i < o_1st pt n set → set.testBit i = true → 1 + o_T pt n (set &&& pt i) < o_T pt n set := by
  have hr := o_T_rec hp set
  rcases o_mx_ex (pt := pt) (t := o_T pt n) (set := set) n with h | ⟨i, h1, h2, h3⟩
  · omega
  · have hP : (fun i => set.testBit i && decide (1 + o_T pt n (set &&& pt i) = o_T pt n set)) i = true := by
      show (set.testBit i && decide (1 + o_T pt n (set &&& pt i) = o_T pt n set)) = true
      rw [h2, decide_eq_true (by omega)]
      rfl
    have hs := o_ff_spec (P := fun i => set.testBit i && decide (1 + o_T pt n (set &&& pt i) = o_T pt n set)) (c := n) (k := 0) (i := i) (by omega) (by omega) hP
    have h4 : o_1st pt n set ≤ i := hs.2.2
    have h5 : (set.testBit (o_1st pt n set) && decide (1 + o_T pt n (set &&& pt (o_1st pt n set)) = o_T pt n set)) = true := hs.1
    rw [Bool.and_eq_true, decide_eq_true_iff] at h5
    refine ⟨by omega, h5.1, h5.2, fun j hj hb => ?_⟩
    have h6 := o_mx_ge (pt := pt) (t := o_T pt n) hb n (by omega)
    rcases Nat.lt_or_ge (1 + o_T pt n (set &&& pt j)) (o_T pt n set) with q | q
    · exact q
    · have hPj : (fun i => set.testBit i && decide (1 + o_T pt n (set &&& pt i) = o_T pt n set)) j = true := by
        show (set.testBit j && decide (1 + o_T pt n (set &&& pt j) = o_T pt n set)) = true
        rw [hb, decide_eq_true (by omega)]
        rfl
      have h7 := (o_ff_spec (P := fun i => set.testBit i && decide (1 + o_T pt n (set &&& pt i) = o_T pt n set)) (c := n) (k := 0) (i := j) (by omega) (by omega) hPj).2.2
      have h8 : o_1st pt n set ≤ j := h7
      omega
theorem o_set_T {pt : Nat → Nat} {n : Nat} (hp : o_irr pt n) : ∀ k, k ≤ o_T pt n (2 ^ n - 1) → o_T pt n (o_set pt n k) + k = o_T pt n (2 ^ n - 1)
  | 0, _ => rfl
  | k + 1, h => by
    have ih := o_set_T hp k (by omega)
    have h1 := (o_1st_spec (set := o_set pt n k) hp (by omega)).2.2.1
    show o_T pt n (o_set pt n k &&& pt (o_1st pt n (o_set pt n k))) + (k + 1) = _
    omega
theorem q_dec1 (n : Nat) (h : 1 ≤ n) : nI n + Int32.ofInt (-1) = nI (n - 1) := by
  rw [show Int32.ofInt (-1) = -(nI 1) by decide, ← Int32.sub_eq_add_neg, pk_sub h]
theorem z_nonneg {x : Int32} (h : ¬ x < 0) : ∃ a, a < 2 ^ 31 ∧ x = nI a := by
  refine ⟨x.toNatClampNeg, ?_, ?_⟩
  · have := Int32.toInt_lt x
    have h2 := z_nn x h
    omega
  · have h2 := z_nn x h
    have h3 := Int32.toInt_lt x
    apply Int32.toInt_inj.mp
    rw [nI_toInt (by omega)]
    exact h2
theorem mm_order (d nl : Nat) (s : zS) (hw : s_wf s) (I : zI) (J : zJ) (hm : mI s I J) (x : Int32) : z_C yX4_order cX4_order 5 (some .int) (d + 4) [.ref 17, .int x] (z_s nl) I J 0 0 (mR (.int (r_order s x)) nl I J) := by
  have h100 := s_nd_len hw
  have hirr := s_pt_irr s
  refine z_C.of (by decide) (Nat.le_of_ble_eq_true rfl) fun K E X => ?_
  refine v_aload_n E dX4_order_0 rfl ?_
  refine v_callV E dX4_order_1 k_X4_148 Y_X4_findNeeds (mm_findNeeds d nl s hw I J hm) rfl rfl rfl (Nat.le_of_ble_eq_true rfl) ?_
  rintro r h' I1 J1 ⟨rfl, rfl, g1, g2, hS, rfl⟩
  have no : r_order s x = -1 → z_V K 17 [(0, .ref 17), (1, .int x)] [] (z_s nl) I1 J1 0 0 := by
    intro e
    refine v_iconst (v := -1) E dX4_order_17 (by decide) ?_
    exact v_iret E X dX4_order_18 (mR.e e.symm hS)
  refine v_aload_n E dX4_order_4 rfl ?_
  refine v_getIE E f_X4_73 dX4_order_5 rfl rfl g2.1 ?_
  refine v_bipush (v := nI 10) E dX4_order_8 (by decide) ?_
  refine v_icmp_gtN (tgt := 17) E dX4_order_10 (by decide) (by omega) (by omega) (fun c => ?_) (fun c => ?_)
  · exact no (by unfold r_order; rw [if_neg (by omega)])
  · have hn2 := p2n c
    have hp0 := Nat.two_pow_pos (s_nd s).length
    have hr : r_order s x = if z_isx x (r_longest s) then nI (r_orderN s x.toNatClampNeg) else -1 := by unfold r_order; rw [if_pos c]
    refine v_iload_n E dX4_order_13 rfl ?_
    refine v_if_ge (tgt := 19) E dX4_order_14 (by decide)  (fun c1 => ?_) (fun c1 => ?_)
    · obtain ⟨a, ha, rfl⟩ := z_nonneg (x := x) (Int32.not_lt.mpr c1)
      have hlo : r_longest s ≤ 1024 := by
        have := o_T_le hirr (2 ^ (s_nd s).length - 1)
        unfold r_longest
        omega
      rw [z_isx_nI ha (by omega), nI_clamp ha] at hr
      refine v_aload_n E dX4_order_19 rfl ?_
      refine v_callV E dX4_order_20 k_X4_158 Y_X4_orders (mm_orders d nl s hw I1 J1 ⟨g1, g2⟩ c) rfl rfl rfl (Nat.le_of_ble_eq_true rfl) ?_
      rintro r h' I2 J2 ⟨rfl, rfl, k1, k2, rfl⟩
      have hN2 := k2.mN ⟨g1, g2⟩
      have hS2 := hS.tr k2.mS
      refine v_iconst (v := nI 1) E dX4_order_23 (by decide) ?_
      refine v_aload_n E dX4_order_24 rfl ?_
      refine v_getIE E f_X4_73 dX4_order_25 rfl rfl hN2.2.1 ?_
      refine v_ishlN E dX4_order_28 (by omega) ?_
      refine v_p2 ?_
      refine v_iconst (v := nI 1) E dX4_order_29 (by decide) ?_
      refine v_isubN E dX4_order_30 (by omega) ?_
      refine v_istore_n E dX4_order_31 (by decide) ?_
      refine v_iload_n E dX4_order_32 rfl ?_
      refine v_istore_n E dX4_order_33 (by decide) ?_
      have loop : ∀ cc k, k + cc = r_longest s → k ≤ a → ∀ lr, z_V K 34 ([(0, .ref 17), (1, .int (nI a)), (2, .int (nI (o_set (s_pt s) (s_nd s).length k))), (3, .int (nI (a - k)))] ++ lr) [] (z_s nl) I2 J2 0 0 := by
        intro cc
        induction cc with
        | zero =>
          intro k hk hka lr
          have hT := o_set_T hirr k (show k ≤ r_longest s by omega)
          have hTe : r_longest s = o_T (s_pt s) (s_nd s).length (2 ^ (s_nd s).length - 1) := rfl
          have hlt := o_set_lt (s_pt s) (s_nd s).length k
          refine v_ls (ls2 := [(0, .ref 17), (1, .int (nI a)), (2, .int (nI (o_set (s_pt s) (s_nd s).length k))), (3, .int (nI (a - k)))]) (by intro q hq; simp only [List.mem_cons, List.not_mem_nil, or_false] at hq; rcases hq with rfl | rfl | rfl | rfl <;> rfl) ?_
          refine v_aload_n E dX4_order_34 rfl ?_
          refine v_getR E f_X4_76 dX4_order_35 rfl rfl rfl ?_
          refine v_iload_n E dX4_order_38 rfl ?_
          refine v_ialoadE E dX4_order_39 rfl rfl (by omega) (by decide) (k1 _ hlt) ?_
          refine v_if_leN (tgt := 105) E dX4_order_40 (by decide) (by omega) (fun c2 => ?_) (fun c2 => ?_)
          · refine v_iconst (v := -1) E dX4_order_105 (by decide) ?_
            exact v_iret E X dX4_order_106 (mR.e (by rw [hr, decide_eq_false (by omega)]; rfl) hS2)
          · exact absurd c2 (by omega)
        | succ cc ih =>
          intro k hk hka lr
          have hT := o_set_T hirr k (show k ≤ r_longest s by omega)
          have hTe : r_longest s = o_T (s_pt s) (s_nd s).length (2 ^ (s_nd s).length - 1) := rfl
          have hlt := o_set_lt (s_pt s) (s_nd s).length k
          have hsp := o_1st_spec (set := o_set (s_pt s) (s_nd s).length k) hirr (by omega)
          have e9 : o_set (s_pt s) (s_nd s).length (k + 1) = o_set (s_pt s) (s_nd s).length k &&& s_pt s (o_1st (s_pt s) (s_nd s).length (o_set (s_pt s) (s_nd s).length k)) := rfl
          have e10 : r_orderN s k = o_1st (s_pt s) (s_nd s).length (o_set (s_pt s) (s_nd s).length k) := rfl
          generalize o_set (s_pt s) (s_nd s).length k = set at hT hlt hsp e9 e10 ⊢
          generalize o_1st (s_pt s) (s_nd s).length set = i0 at hsp e9 e10
          obtain ⟨p1, p2, p3, p4⟩ := hsp
          have hset := p2_10 c hlt
          refine v_ls (ls2 := [(0, .ref 17), (1, .int (nI a)), (2, .int (nI set)), (3, .int (nI (a - k)))]) (by intro q hq; simp only [List.mem_cons, List.not_mem_nil, or_false] at hq; rcases hq with rfl | rfl | rfl | rfl <;> rfl) ?_
          refine v_aload_n E dX4_order_34 rfl ?_
          refine v_getR E f_X4_76 dX4_order_35 rfl rfl rfl ?_
          refine v_iload_n E dX4_order_38 rfl ?_
          refine v_ialoadE E dX4_order_39 rfl rfl (by omega) (by decide) (k1 _ hlt) ?_
          refine v_if_leN (tgt := 105) E dX4_order_40 (by decide) (by omega) (fun c2 => ?_) (fun c2 => ?_)
          · exact absurd c2 (by omega)
          · refine v_iconst (v := nI 0) E dX4_order_43 (by decide) ?_
            refine v_istore E dX4_order_44 (by decide) ?_
            have inner : ∀ e i, i + e = i0 → z_V K 46 [(0, .ref 17), (1, .int (nI a)), (2, .int (nI set)), (3, .int (nI (a - k))), (4, .int (nI i))] [] (z_s nl) I2 J2 0 0 := by
              intro e
              induction e with
              | zero =>
                intro i hi
                have hi : i = i0 := by omega
                subst hi
                have hTi := o_T_le hirr (set &&& s_pt s i)
                have hai : set &&& s_pt s i < 2 ^ (s_nd s).length := q_and_lt hlt
                refine v_iload_n E dX4_order_46 rfl ?_
                refine v_iload E dX4_order_47 rfl ?_
                refine v_ishrN E dX4_order_49 (by omega) (by omega) ?_
                refine v_iconst (v := nI 1) E dX4_order_50 (by decide) ?_
                refine v_iandN E dX4_order_51 ?_
                refine v_tb ?_
                rw [p2]
                refine v_if_eqB (tgt := 78) E dX4_order_52 (by decide)  (fun c3 => ?_) (fun c3 => ?_)
                · cases c3
                · refine v_iconst (v := nI 1) E dX4_order_55 (by decide) ?_
                  refine v_aload_n E dX4_order_56 rfl ?_
                  refine v_getR E f_X4_76 dX4_order_57 rfl rfl rfl ?_
                  refine v_aload_n E dX4_order_60 rfl ?_
                  refine v_iload_n E dX4_order_61 rfl ?_
                  refine v_iload E dX4_order_62 rfl ?_
                  refine v_callV1 E dX4_order_64 k_X4_154 Y_X4_behind (mm_behind (d + 1) nl s hw I2 J2 hN2 c set hlt i p1) rfl rfl rfl (Nat.le_of_ble_eq_true rfl) ?_
                  refine v_ialoadE E dX4_order_67 rfl rfl (by omega) (by decide) (k1 _ hai) ?_
                  refine v_iaddN E dX4_order_68 ?_
                  refine v_aload_n E dX4_order_69 rfl ?_
                  refine v_getR E f_X4_76 dX4_order_70 rfl rfl rfl ?_
                  refine v_iload_n E dX4_order_73 rfl ?_
                  refine v_ialoadE E dX4_order_74 rfl rfl (by omega) (by decide) (k1 _ hlt) ?_
                  refine v_icmp_geN (tgt := 84) E dX4_order_75 (by decide) (by omega) (by omega) (fun c4 => ?_) (fun c4 => ?_)
                  · refine v_iload_n E dX4_order_84 rfl ?_
                    refine v_if_neN (tgt := 91) E dX4_order_85 (by decide) (by omega) (fun c5 => ?_) (fun c5 => ?_)
                    · refine v_iinc (v := nI (a - k - 1)) E dX4_order_91 rfl (q_dec1 _ (by omega)) (by decide) ?_
                      refine v_aload_n E dX4_order_94 rfl ?_
                      refine v_iload_n E dX4_order_95 rfl ?_
                      refine v_iload E dX4_order_96 rfl ?_
                      refine v_callV1 E dX4_order_98 k_X4_154 Y_X4_behind (mm_behind (d + 1) nl s hw I2 J2 hN2 c set hlt i p1) rfl rfl rfl (Nat.le_of_ble_eq_true rfl) ?_
                      refine v_istore_n E dX4_order_101 (by decide) ?_
                      refine v_goto (tgt := 34) E dX4_order_102 (by decide) ?_
                      rw [← e9]
                      have i1 := ih (k + 1) (by omega) (by omega) [(4, .int (nI i))]
                      rw [show a - (k + 1) = a - k - 1 by omega] at i1
                      exact i1
                    · refine v_iload E dX4_order_88 rfl ?_
                      have hak : a = k := by omega
                      subst hak
                      exact v_iret E X dX4_order_90 (mR.e (by rw [hr, decide_eq_true (by omega), e10]; rfl) hS2)
                  · exact absurd c4 (by omega)
              | succ e ih2 =>
                intro i hi
                have hai : set &&& s_pt s i < 2 ^ (s_nd s).length := q_and_lt hlt
                have hTi := o_T_le hirr (set &&& s_pt s i)
                have hTs := o_T_le hirr set
                refine v_iload_n E dX4_order_46 rfl ?_
                refine v_iload E dX4_order_47 rfl ?_
                refine v_ishrN E dX4_order_49 (by omega) (by omega) ?_
                refine v_iconst (v := nI 1) E dX4_order_50 (by decide) ?_
                refine v_iandN E dX4_order_51 ?_
                refine v_tb ?_
                refine v_if_eqB (tgt := 78) E dX4_order_52 (by decide)  (fun c3 => ?_) (fun c3 => ?_)
                · refine v_inc E dX4_order_78 rfl (by decide) ?_
                  refine v_goto (tgt := 46) E dX4_order_81 (by decide) ?_
                  exact ih2 (i + 1) (by omega)
                · have h4 := p4 i (by omega) c3
                  refine v_iconst (v := nI 1) E dX4_order_55 (by decide) ?_
                  refine v_aload_n E dX4_order_56 rfl ?_
                  refine v_getR E f_X4_76 dX4_order_57 rfl rfl rfl ?_
                  refine v_aload_n E dX4_order_60 rfl ?_
                  refine v_iload_n E dX4_order_61 rfl ?_
                  refine v_iload E dX4_order_62 rfl ?_
                  refine v_callV1 E dX4_order_64 k_X4_154 Y_X4_behind (mm_behind (d + 1) nl s hw I2 J2 hN2 c set hlt i (by omega)) rfl rfl rfl (Nat.le_of_ble_eq_true rfl) ?_
                  refine v_ialoadE E dX4_order_67 rfl rfl (by omega) (by decide) (k1 _ hai) ?_
                  refine v_iaddN E dX4_order_68 ?_
                  refine v_aload_n E dX4_order_69 rfl ?_
                  refine v_getR E f_X4_76 dX4_order_70 rfl rfl rfl ?_
                  refine v_iload_n E dX4_order_73 rfl ?_
                  refine v_ialoadE E dX4_order_74 rfl rfl (by omega) (by decide) (k1 _ hlt) ?_
                  refine v_icmp_geN (tgt := 84) E dX4_order_75 (by decide) (by omega) (by omega) (fun c4 => ?_) (fun c4 => ?_)
                  · exact absurd c4 (by omega)
                  · refine v_inc E dX4_order_78 rfl (by decide) ?_
                    refine v_goto (tgt := 46) E dX4_order_81 (by decide) ?_
                    exact ih2 (i + 1) (by omega)
            exact inner i0 0 (by omega)
      have l0 := loop (r_longest s) 0 (by omega) (by omega) []
      exact l0
    · exact no (by
        rw [hr]
        have : z_isx x (r_longest s) = false := decide_eq_false (fun z => c1 (Int32.not_lt.mp z.1))
        rw [this]
        rfl)
