/-! OneCall: calls are said -/
/-- the class's cells while a call is being said: k listeners have heard it, or were off -/
def spI (s : zS) (m k : Nat) (I : zI) (J : zJ) (I' : zI) (J' : zJ) : Prop :=
  I' 5 (s_nc s) = nI (l_cnt (fun l => !s_of s l) k) ∧ I' 6 (s_nc s) = nI (l_cnt (fun l => !s_of s l && !l_sp (s_rows s l) m) k) ∧ I' 4 (s_nc s) = nI m ∧
  (∀ q, q < 37 → q ≠ 4 → q ≠ 5 → q ≠ 6 → I' q = I q) ∧ (∀ q, q < 37 → J' q = J q) ∧ (∀ c, c ≠ s_nc s → I' 4 c = I 4 c ∧ I' 5 c = I 5 c ∧ I' 6 c = I 6 c) ∧
  (∀ l, l < k → l < s_nl s → lsI I' J' (z_pl l) (s_kd s l) (s_rows (t_say s m) l) (s_hm s l) (s_hp s l) (s_wt s l) (s_hc (t_say s m) l) (s_of s l)) ∧
  ∀ l, k ≤ l → l < s_nl s → lsI I' J' (z_pl l) (s_kd s l) (s_rows s l) (s_hm s l) (s_hp s l) (s_wt s l) (s_hc s l) (s_of s l)
theorem m_speak (d : Nat) (s : zS) (hw : s_wf s) (I : zI) (J : zJ) (hc : cI s I J) (m : Nat) (hm0 : 0 < m) (hmp : m < 2 ^ s_np s) : z_C yX3_speak cX3_speak 5 (some .int) (d + 5) [.ref 1, .int (nI m)] (z_s (s_nl s)) I J 0 0 (cQ (a_sayN s m) I J) := by
  have hc0 := hc
  obtain ⟨c1, c2, c3, c4, c5, c6, c7, c8⟩ := hc
  have hm1 := p2_10 hw.1 hmp
  have w2 := hw.2.1
  have w3 := hw.2.2.1
  refine z_C.of (by decide) (Nat.le_of_ble_eq_true rfl) fun K E X => ?_
  refine v_aload_n E dX3_speak_0 rfl ?_
  refine v_getIE E f_X3_47 dX3_speak_1 rfl rfl c2 ?_
  refine v_bipush (v := nI 40) E dX3_speak_4 (by decide) ?_
  refine v_icmp_ltN (tgt := 12) E dX3_speak_6 (by decide) (by omega) (by omega) (fun e1 => ?_) (fun e1 => ?_)
  · have ea : a_sayN s m = (nI (s_nc s), t_say s m) := by unfold a_sayN; rw [if_neg (by omega)]
    rw [ea] at X
    refine v_aload_n E dX3_speak_12 rfl ?_
    refine v_getIE E f_X3_47 dX3_speak_13 rfl rfl c2 ?_
    refine v_istore_n E dX3_speak_16 (by decide) ?_
    refine v_aload_n E dX3_speak_17 rfl ?_
    refine v_getR E f_X3_20 dX3_speak_18 rfl rfl rfl ?_
    refine v_iload_n E dX3_speak_21 rfl ?_
    refine v_iload_n E dX3_speak_22 rfl ?_
    refine v_iastore E dX3_speak_23 rfl rfl e1 (by decide) ?_
    refine v_iconst (v := nI 0) E dX3_speak_24 (by decide) ?_
    refine v_istore_n E dX3_speak_25 (by decide) ?_
    have loop : ∀ k, k ≤ s_nl s → ∀ (I' : zI) (J' : zJ), spI s m k I J I' J' → z_V K 26 [(0, .ref 1), (1, .int (nI m)), (2, .int (nI (s_nc s))), (3, .int (nI k))] [] (z_s (s_nl s)) I' J' 0 0 := by
      refine z_for _ ?_ (fun k hk ih => ?_)
      · rintro I' J' ⟨p1, p2, p3, p4, p5, p6, p7, p8⟩
        have c3' : I' 3 2 = nI (s_nl s) := by rw [p4 3 (by decide) (by decide) (by decide) (by decide)]; exact c3
        have c2' : I' 1 6 = nI (s_nc s) := by rw [p4 1 (by decide) (by decide) (by decide) (by decide)]; exact c2
        refine v_iload_n E dX3_speak_26 rfl ?_
        refine v_aload_n E dX3_speak_27 rfl ?_
        refine v_getR E f_X3_16 dX3_speak_28 rfl rfl rfl ?_
        refine v_callV1 E dX3_speak_31 k_X3_58 Y_Jx4a65c_size_8abf5 (m_size (d + 4) (s_nl s) I' J' c3') rfl rfl rfl (Nat.le_of_ble_eq_true rfl) ?_
        refine v_icmp_geN (tgt := 93) E dX3_speak_34 (by decide) (by omega) (by omega) (fun c => ?_) (fun c => ?_)
        · refine v_ls (ls2 := [(0, .ref 1), (1, .int (nI m)), (2, .int (nI (s_nc s)))]) (by intro q hq; simp only [List.mem_cons, List.not_mem_nil, or_false] at hq; rcases hq with rfl | rfl | rfl <;> rfl) ?_
          refine v_aload_n E dX3_speak_93 rfl ?_
          refine v_dup E dX3_speak_94 rfl ?_
          refine v_getIE E f_X3_47 dX3_speak_95 rfl rfl c2' ?_
          refine v_iconst (v := nI 1) E dX3_speak_98 (by decide) ?_
          refine v_iaddN E dX3_speak_99 ?_
          refine v_putI E f_X3_47 dX3_speak_100 rfl rfl rfl rfl (by decide) ?_
          refine v_iload_n E dX3_speak_103 rfl ?_
          refine v_iret E X dX3_speak_104 ⟨rfl, rfl, ⟨?_, z_u_same, ?_, ?_, ?_, ?_, ?_, ?_⟩, fun q q1 q2 => ⟨by rw [z_u_row (by omega)]; exact p4 q (by omega) (by omega) (by omega) (by omega), p5 q (by omega)⟩⟩
          · rw [z_u_col (by decide), p4 1 (by decide) (by decide) (by decide) (by decide)]; exact c1
          · rw [z_u_row (by decide)]; exact c3'
          · intro p hp; rw [p5 2 (by decide)]; exact c4 p hp
          · intro c9 hc9
            rw [z_u_row (by decide)]
            show I' 4 c9 = nI (va_up (s_cm s) (s_nc s) m c9)
            by_cases e : c9 = s_nc s
            · rw [e, u_up_same]; exact p3
            · rw [u_up_ne e, (p6 c9 e).1]
              have hc9 : c9 < s_nc s + 1 := hc9
              exact c5 c9 (by omega)
          · intro c9 hc9
            rw [z_u_row (by decide)]
            show I' 5 c9 = nI (if c9 < s_nc s + 1 then s_hear (t_say s m) c9 else 0)
            by_cases e : c9 = s_nc s
            · rw [e, if_pos (by omega), s_say_hearN hw]; exact p1
            · rw [(p6 c9 e).2.1, c6 c9 hc9]
              by_cases e2 : c9 < s_nc s
              · rw [if_pos e2, if_pos (by omega), s_say_hear e2]
              · rw [if_neg e2, if_neg (by omega)]
          · intro c9 hc9
            rw [z_u_row (by decide)]
            show I' 6 c9 = nI (if c9 < s_nc s + 1 then s_newc (t_say s m) c9 else 0)
            by_cases e : c9 = s_nc s
            · rw [e, if_pos (by omega), s_say_newcN hw]; exact p2
            · rw [(p6 c9 e).2.2, c7 c9 hc9]
              by_cases e2 : c9 < s_nc s
              · rw [if_pos e2, if_pos (by omega), s_say_newc e2]
              · rw [if_neg e2, if_neg (by omega)]
          · intro l hl
            have := z_pl_37 l
            exact lsI_kept (p7 l hl hl) (fun q q1 q2 => ⟨z_u_row (by omega), rfl⟩)
        · exact absurd c (by omega)
      · rintro I' J' ⟨p1, p2, p3, p4, p5, p6, p7, p8⟩
        have c3' : I' 3 2 = nI (s_nl s) := by rw [p4 3 (by decide) (by decide) (by decide) (by decide)]; exact c3
        have hL := p8 k (Nat.le_refl _) hk
        have hB := s_lsB hw k
        have hrow := s_say_rows (s := s) (m := m) hk
        have hhc := s_say_hc (s := s) (m := m) hk
        refine v_iload_n E dX3_speak_26 rfl ?_
        refine v_aload_n E dX3_speak_27 rfl ?_
        refine v_getR E f_X3_16 dX3_speak_28 rfl rfl rfl ?_
        refine v_callV1 E dX3_speak_31 k_X3_58 Y_Jx4a65c_size_8abf5 (m_size (d + 4) (s_nl s) I' J' c3') rfl rfl rfl (Nat.le_of_ble_eq_true rfl) ?_
        refine v_icmp_geN (tgt := 93) E dX3_speak_34 (by decide) (by omega) (by omega) (fun c => ?_) (fun c => ?_)
        · exact absurd c (by omega)
        · refine v_aload_n E dX3_speak_37 rfl ?_
          refine v_getR E f_X3_16 dX3_speak_38 rfl rfl rfl ?_
          refine v_iload_n E dX3_speak_41 rfl ?_
          refine v_callV1 E dX3_speak_42 k_X3_74 Y_Jx4a65c_get_915e3 (m_get (d + 2) (s_nl s) I' J' c3' k hk w2) rfl rfl rfl (Nat.le_of_ble_eq_true rfl) ?_
          refine v_checkcast E dX3_speak_45 c_X3_62 (by decide) (v_cc hk) ?_
          refine v_astore E dX3_speak_48 (by decide) ?_
          refine v_aload E dX3_speak_50 rfl ?_
          refine v_getIE E f_X3_100 dX3_speak_52 (v_cc hk) rfl hL.2.2.2.2.2.2.1 ?_
          have n1 : l_cnt (fun l => !s_of s l) (k + 1) = l_cnt (fun l => !s_of s l) k + (!s_of s k).toNat := rfl
          have n2 : l_cnt (fun l => !s_of s l && !l_sp (s_rows s l) m) (k + 1) = l_cnt (fun l => !s_of s l && !l_sp (s_rows s l) m) k + (!s_of s k && !l_sp (s_rows s k) m).toNat := rfl
          refine v_if_neB (tgt := 87) E dX3_speak_55 (by decide)  (fun e2 => ?_) (fun e2 => ?_)
          · rw [e2] at n1 n2 hrow hhc
            refine v_ls (ls2 := [(0, .ref 1), (1, .int (nI m)), (2, .int (nI (s_nc s))), (3, .int (nI k))]) (by intro q hq; simp only [List.mem_cons, List.not_mem_nil, or_false] at hq; rcases hq with rfl | rfl | rfl | rfl <;> rfl) ?_
            refine v_inc E dX3_speak_87 rfl (by decide) ?_
            refine v_goto (tgt := 26) E dX3_speak_90 (by decide) ?_
            refine ih I' J' ⟨by rw [n1]; exact p1, by rw [n2]; exact p2, p3, p4, p5, p6, fun l h1 h2 => ?_, fun l h1 h2 => p8 l (by omega) h2⟩
            by_cases e : l = k
            · subst e
              rw [hrow, hhc]
              exact hL
            · exact p7 l (by omega) h2
          · rw [e2] at n1 n2 hrow hhc
            have hpl := z_pl_37 k
            refine v_aload_n E dX3_speak_58 rfl ?_
            refine v_getR E f_X3_24 dX3_speak_59 rfl rfl rfl ?_
            refine v_iload_n E dX3_speak_62 rfl ?_
            refine v_dup2 E dX3_speak_63 rfl rfl ?_
            refine v_ialoadE E dX3_speak_64 rfl rfl e1 (by decide) p1 ?_
            refine v_iconst (v := nI 1) E dX3_speak_65 (by decide) ?_
            refine v_iaddN E dX3_speak_66 ?_
            refine v_iastore E dX3_speak_67 rfl rfl e1 (by decide) ?_
            refine v_aload_n E dX3_speak_68 rfl ?_
            refine v_getR E f_X3_27 dX3_speak_69 rfl rfl rfl ?_
            refine v_iload_n E dX3_speak_72 rfl ?_
            refine v_dup2 E dX3_speak_73 rfl rfl ?_
            refine v_ialoadE E dX3_speak_74 rfl rfl e1 (by decide) (show z_u I' 5 _ _ 6 (s_nc s) = nI (l_cnt (fun l => !s_of s l && !l_sp (s_rows s l) m) k) by rw [z_u_row (by decide)]; exact p2) ?_
            refine v_aload E dX3_speak_75 rfl ?_
            refine v_iload_n E dX3_speak_77 rfl ?_
            refine v_iload_n E dX3_speak_78 rfl ?_
            have hL2 : lsI (z_u I' 5 (s_nc s) (nI (l_cnt (fun l => !s_of s l) k + 1))) J' (z_pl k) (s_kd s k) (s_rows s k) (s_hm s k) (s_hp s k) (s_wt s k) (s_hc s k) (s_of s k) := lsI_kept hL (fun q q1 q2 => ⟨z_u_row (by omega), rfl⟩)
            have hlen : (s_rows s k).length < 52 := by
              have h1 := (s_rows_len hw k (s_nc s)).2
              have h2 := hw.2.2.2.2.2.1 k
              have h3 : (s_rows s k).length = (s_rowsAt s k (s_nc s)).length := rfl
              omega
            refine v_callV E dX3_speak_79 k_X3_198 Y_X1_hear (m_hear d (z_s (s_nl s)) _ J' (z_pl k) (z_ls hk) hL2 hB m hm1 hlen (s_nc s) e1) (v_cc hk) rfl rfl (Nat.le_of_ble_eq_true rfl) ?_
            rintro r h' I2 J2 ⟨rfl, rfl, g1, g2⟩
            refine v_callS1 E dX3_speak_82 k_X3_104 Y_X3_oneIf (m_oneIf (d + 4) (z_s (s_nl s)) I2 J2 (!l_sp (s_rows s k) m)) rfl rfl (Nat.le_of_ble_eq_true rfl) ?_
            refine v_iaddN E dX3_speak_85 ?_
            refine v_iastore E dX3_speak_86 rfl rfl e1 (by decide) ?_
            have low : ∀ q, q < 37 → I2 q = z_u I' 5 (s_nc s) (nI (l_cnt (fun l => !s_of s l) k + 1)) q ∧ J2 q = J' q := fun q hq => g2 q (Or.inl (by omega))
            refine v_ls (ls2 := [(0, .ref 1), (1, .int (nI m)), (2, .int (nI (s_nc s))), (3, .int (nI k))]) (by intro q hq; simp only [List.mem_cons, List.not_mem_nil, or_false] at hq; rcases hq with rfl | rfl | rfl | rfl <;> rfl) ?_
            refine v_inc E dX3_speak_87 rfl (by decide) ?_
            refine v_goto (tgt := 26) E dX3_speak_90 (by decide) ?_
            refine ih _ J2 ⟨?_, ?_, ?_, ?_, ?_, ?_, ?_, ?_⟩
            · rw [z_u_row (by decide), (low 5 (by decide)).1, z_u_same, n1]; rfl
            · rw [z_u_same, n2]; rfl
            · rw [z_u_row (by decide), (low 4 (by decide)).1, z_u_row (by decide)]; exact p3
            · intro q q1 q2 q3 q4
              rw [z_u_row q4, (low q q1).1, z_u_row q3]
              exact p4 q q1 q2 q3 q4
            · intro q q1
              rw [(low q q1).2]
              exact p5 q q1
            · intro c9 e9
              refine ⟨?_, ?_, ?_⟩
              · rw [z_u_row (by decide), (low 4 (by decide)).1, z_u_row (by decide)]; exact (p6 c9 e9).1
              · rw [z_u_row (by decide), (low 5 (by decide)).1, z_u_col e9]; exact (p6 c9 e9).2.1
              · rw [z_u_col e9, (low 6 (by decide)).1, z_u_row (by decide)]; exact (p6 c9 e9).2.2
            · intro l h1 h2
              have h37 := z_pl_37 l
              by_cases e : l = k
              · subst e
                rw [hrow, hhc]
                exact lsI_kept g1 (fun q q1 q2 => ⟨z_u_row (by omega), rfl⟩)
              · have hne := z_pl_ne e
                refine lsI_kept (p7 l (by omega) h2) (fun q q1 q2 => ⟨?_, ?_⟩)
                · rw [z_u_row (by omega), (g2 q (by omega)).1, z_u_row (by omega)]
                · exact (g2 q (by omega)).2
            · intro l h1 h2
              have h37 := z_pl_37 l
              have hne := z_pl_ne (show l ≠ k by omega)
              refine lsI_kept (p8 l (by omega) h2) (fun q q1 q2 => ⟨?_, ?_⟩)
              · rw [z_u_row (by omega), (g2 q (by omega)).1, z_u_row (by omega)]
              · exact (g2 q (by omega)).2
    refine loop 0 (by omega) _ J ⟨?_, ?_, z_u_same, fun q q1 q2 q3 q4 => z_u_row q2, fun _ _ => rfl, fun c9 e9 => ⟨z_u_col e9, by rw [z_u_row (by decide)], by rw [z_u_row (by decide)]⟩, fun l h1 => absurd h1 (by omega), fun l h1 h2 => ?_⟩
    · rw [z_u_row (by decide), c6 _ e1, if_neg (by omega)]; rfl
    · rw [z_u_row (by decide), c7 _ e1, if_neg (by omega)]; rfl
    · have := z_pl_37 l
      exact lsI_kept (c8 l h2) (fun q q1 q2 => ⟨z_u_row (by omega), rfl⟩)
  · refine v_bipush (v := -4) E dX3_speak_9 (by decide) ?_
    exact v_iret E X dX3_speak_11 (cQ.same (by unfold a_sayN; rw [if_pos (by omega)]) hc0)
theorem m_say (d : Nat) (s : zS) (hw : s_wf s) (I : zI) (J : zJ) (hc : cI s I J) (x : Int32) : z_C yX3_say cX3_say 2 (some .int) (d + 6) [.ref 1, .int x] (z_s (s_nl s)) I J 0 0 (cQ (a_say s x) I J) := by
  have w1 := hw.1
  refine z_C.of (by decide) (Nat.le_of_ble_eq_true rfl) fun K E X => ?_
  refine v_aload_n E dX3_say_0 rfl ?_
  refine v_iload_n E dX3_say_1 rfl ?_
  refine v_callV1 E dX3_say_2 k_X3_88 Y_X3_isMask (m_isMask (d + 4) (s_nl s) (s_np s) I J hc.1 w1 x) rfl rfl rfl (Nat.le_of_ble_eq_true rfl) ?_
  refine v_if_neB (tgt := 11) E dX3_say_5 (by decide)  (fun e => ?_) (fun e => ?_)
  · have e2 := e
    obtain ⟨m, hm0, hmp, rfl⟩ := z_msk_true w1 e
    have hm1 := p2_10 w1 hmp
    have ea : a_say s (nI m) = a_sayN s m := by unfold a_say; rw [e2, nI_clamp (by omega)]; rfl
    rw [ea] at X
    refine v_aload_n E dX3_say_11 rfl ?_
    refine v_iload_n E dX3_say_12 rfl ?_
    refine v_callV E dX3_say_13 k_X3_108 Y_X3_speak (m_speak d s hw I J hc m hm0 hmp) rfl rfl rfl (Nat.le_of_ble_eq_true rfl) ?_
    rintro r h' I' J' ⟨rfl, g1, g2, g3⟩
    exact v_iret E X dX3_say_16 ⟨rfl, g1, g2, g3⟩
  · refine v_bipush (v := -2) E dX3_say_8 (by decide) ?_
    exact v_iret E X dX3_say_10 (cQ.same (by unfold a_say; rw [e]; rfl) hc)
theorem m_again (d : Nat) (s : zS) (hw : s_wf s) (I : zI) (J : zJ) (hc : cI s I J) (x : Int32) : z_C yX3_again cX3_again 2 (some .int) (d + 6) [.ref 1, .int x] (z_s (s_nl s)) I J 0 0 (cQ (a_again s x) I J) := by
  have w1 := hw.1
  have w3 := hw.2.2.1
  have w8 := hw.2.2.2.2.2.2.2.1
  refine z_C.of (by decide) (Nat.le_of_ble_eq_true rfl) fun K E X => ?_
  refine v_aload_n E dX3_again_0 rfl ?_
  refine v_iload_n E dX3_again_1 rfl ?_
  refine v_callV1 E dX3_again_2 k_X3_112 Y_X3_isCall (m_isCall (d + 5) (s_nl s) (s_nc s) I J hc.2.1 x) rfl rfl rfl (Nat.le_of_ble_eq_true rfl) ?_
  refine v_if_neB (tgt := 10) E dX3_again_5 (by decide)  (fun e => ?_) (fun e => ?_)
  · have e2 := e
    obtain ⟨c, hc1, rfl⟩ := z_isx_true (by omega) e
    have ea : a_again s (nI c) = a_sayN s (s_cm s c) := by unfold a_again; rw [e2, nI_clamp (by omega)]; rfl
    rw [ea] at X
    refine v_aload_n E dX3_again_10 rfl ?_
    refine v_aload_n E dX3_again_11 rfl ?_
    refine v_getR E f_X3_20 dX3_again_12 rfl rfl rfl ?_
    refine v_iload_n E dX3_again_15 rfl ?_
    refine v_ialoadE E dX3_again_16 rfl rfl (by omega) (by decide) (hc.2.2.2.2.1 c hc1) ?_
    refine v_callV E dX3_again_17 k_X3_108 Y_X3_speak (m_speak d s hw I J hc (s_cm s c) (w8 c hc1).1 (w8 c hc1).2.1) rfl rfl rfl (Nat.le_of_ble_eq_true rfl) ?_
    rintro r h' I' J' ⟨rfl, g1, g2, g3⟩
    exact v_iret E X dX3_again_20 ⟨rfl, g1, g2, g3⟩
  · refine v_iconst (v := -1) E dX3_again_8 (by decide) ?_
    exact v_iret E X dX3_again_9 (cQ.same (by unfold a_again; rw [e]; rfl) hc)
