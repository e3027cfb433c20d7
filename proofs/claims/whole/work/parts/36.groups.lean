/-! GROUPS: the class -/
def s_gc (s : zS) (i j : Nat) : Bool := decide (n_q (s_nd s) i = n_q (s_nd s) j) || (decide (n_w (s_nd s) i ≠ n_w (s_nd s) j) && (!(s_lk s (n_w (s_nd s) j)).testBit (n_q (s_nd s) i) && !(s_lk s (n_w (s_nd s) i)).testBit (n_q (s_nd s) j)))
theorem s_gc_sy (s : zS) (i j : Nat) : s_gc s i j = s_gc s j i := by
  unfold s_gc
  have e1 : decide (n_q (s_nd s) i = n_q (s_nd s) j) = decide (n_q (s_nd s) j = n_q (s_nd s) i) := decide_eq_decide.mpr ⟨Eq.symm, Eq.symm⟩
  have e2 : decide (n_w (s_nd s) i ≠ n_w (s_nd s) j) = decide (n_w (s_nd s) j ≠ n_w (s_nd s) i) := decide_eq_decide.mpr ⟨Ne.symm, Ne.symm⟩
  rw [e1, e2, Bool.and_comm (!(s_lk s (n_w (s_nd s) j)).testBit (n_q (s_nd s) i))]
def s_gp (s : zS) (i : Nat) : Nat := o_m (s_gc s i) (s_nd s).length
theorem m_canBeGroupedWith (d : Nat) (s : zS) (hw : s_wf s) (I : zI) (J : zJ) (hN : ndI s (s_nd s) I) (h10 : (s_nd s).length ≤ 10) (i : Nat) (hi : i < (s_nd s).length) : z_C yX2_canBeGroupedWith cX2_canBeGroupedWith 5 (some .int) (d + 2) [.ref 7, .int (nI i)] (z_s (s_nl s)) I J 0 0 (z_q (some (.int (nI (s_gp s i)))) (z_s (s_nl s)) I J) := by
  have w1 := hw.1
  have w2 := hw.2.1
  have hqi := (s_nd_at hi).2.1
  have hwi := (s_nd_at hi).1
  have hlk := s_lk_lt hw (n_w (s_nd s) i)
  unfold s_gp
  generalize hB : s_gc s i = B
  refine z_C.of (by decide) (Nat.le_of_ble_eq_true rfl) fun K E X => ?_
  refine v_iconst (v := nI 0) E dX2_canBeGroupedWith_0 (by decide) ?_
  refine v_istore_n E dX2_canBeGroupedWith_1 (by decide) ?_
  refine v_iconst (v := nI 0) E dX2_canBeGroupedWith_2 (by decide) ?_
  refine v_istore_n E dX2_canBeGroupedWith_3 (by decide) ?_
  have loop : ∀ k, k ≤ (s_nd s).length → ∀ ls : zL, (∀ q ∈ [(0, Value.ref 7), (1, .int (nI i)), (2, .int (nI (o_m B k))), (3, .int (nI k))], z_at ls q.1 = some q.2) → z_V K 4 ls [] (z_s (s_nl s)) I J 0 0 := by
    refine z_for _ ?_ (fun k hk ih => ?_)
    · intro ls hls
      refine v_ls hls ?_
      refine v_iload_n E dX2_canBeGroupedWith_4 rfl ?_
      refine v_aload_n E dX2_canBeGroupedWith_5 rfl ?_
      refine v_callV1 E dX2_canBeGroupedWith_6 k_X2_60 Y_X2_sortedCount (m_sorted d (s_nl s) _ I J hN.1 h10) rfl rfl rfl (Nat.le_of_ble_eq_true rfl) ?_
      refine v_icmp_geN (tgt := 102) E dX2_canBeGroupedWith_9 (by decide) (by omega) (by omega) (fun c => ?_) (fun c => ?_)
      · refine v_iload_n E dX2_canBeGroupedWith_102 rfl ?_
        exact v_iret E X dX2_canBeGroupedWith_103 z_qq
      · exact absurd c (by omega)
    · intro ls hls
      refine v_ls hls ?_
      have hqk := (s_nd_at hk).2.1
      have hwk := (s_nd_at hk).1
      have hlk2 := s_lk_lt hw (n_w (s_nd s) k)
      have e : o_m B (k + 1) = if B k then o_m B k ||| 2 ^ k else o_m B k := rfl
      have hBk : B k = s_gc s i k := by rw [← hB]
      have tail : ∀ b : Bool, b = (decide (n_w (s_nd s) i ≠ n_w (s_nd s) k) && (!(s_lk s (n_w (s_nd s) k)).testBit (n_q (s_nd s) i) && !(s_lk s (n_w (s_nd s) i)).testBit (n_q (s_nd s) k))) → z_V K 68 [(0, .ref 7), (1, .int (nI i)), (2, .int (nI (o_m B k))), (3, .int (nI k))] [.int (nI b.toNat)] (z_s (s_nl s)) I J 0 0 := by
        intro b hb
        have hBk2 : B k = (decide (n_q (s_nd s) i = n_q (s_nd s) k) || b) := by rw [hBk, hb]; rfl
        have put : B k = true → z_V K 90 [(0, .ref 7), (1, .int (nI i)), (2, .int (nI (o_m B k))), (3, .int (nI k)), (4, .int (nI b.toNat))] [] (z_s (s_nl s)) I J 0 0 := by
          intro e2
          rw [e2] at e
          rw [e] at ih
          refine v_iload_n E dX2_canBeGroupedWith_90 rfl ?_
          refine v_iconst (v := nI 1) E dX2_canBeGroupedWith_91 (by decide) ?_
          refine v_iload_n E dX2_canBeGroupedWith_92 rfl ?_
          refine v_ishlN E dX2_canBeGroupedWith_93 (by omega) ?_
          refine v_iorN E dX2_canBeGroupedWith_94 ?_
          refine v_istore_n E dX2_canBeGroupedWith_95 (by decide) ?_
          refine v_inc E dX2_canBeGroupedWith_96 rfl (by decide) ?_
          refine v_goto (tgt := 4) E dX2_canBeGroupedWith_99 (by decide) ?_
          rw [Nat.one_mul]
          refine ih _ ?_
          intro q hq
          simp only [List.mem_cons, List.not_mem_nil, or_false] at hq
          rcases hq with rfl | rfl | rfl | rfl <;> rfl
        refine v_istore E dX2_canBeGroupedWith_68 (by decide) ?_
        refine v_aload_n E dX2_canBeGroupedWith_70 rfl ?_
        refine v_getR E f_X2_15 dX2_canBeGroupedWith_71 rfl rfl rfl ?_
        refine v_iload_n E dX2_canBeGroupedWith_74 rfl ?_
        refine v_ialoadE E dX2_canBeGroupedWith_75 rfl rfl (by omega) (by decide) (hN.2 i hi).2.1 ?_
        refine v_aload_n E dX2_canBeGroupedWith_76 rfl ?_
        refine v_getR E f_X2_15 dX2_canBeGroupedWith_77 rfl rfl rfl ?_
        refine v_iload_n E dX2_canBeGroupedWith_80 rfl ?_
        refine v_ialoadE E dX2_canBeGroupedWith_81 rfl rfl (by omega) (by decide) (hN.2 k hk).2.1 ?_
        refine v_icmp_eqN (tgt := 90) E dX2_canBeGroupedWith_82 (by decide) (by omega) (by omega) (fun c1 => ?_) (fun c1 => ?_)
        · exact put (by rw [hBk2, decide_eq_true c1]; rfl)
        · refine v_iload E dX2_canBeGroupedWith_85 rfl ?_
          refine v_if_eqB (tgt := 96) E dX2_canBeGroupedWith_87 (by decide)  (fun c2 => ?_) (fun c2 => ?_)
          · have e2 : B k = false := by rw [hBk2, c2, decide_eq_false c1]; rfl
            rw [e2] at e
            rw [e] at ih
            refine v_inc E dX2_canBeGroupedWith_96 rfl (by decide) ?_
            refine v_goto (tgt := 4) E dX2_canBeGroupedWith_99 (by decide) ?_
            refine ih _ ?_
            intro q hq
            simp only [List.mem_cons, List.not_mem_nil, or_false] at hq
            rcases hq with rfl | rfl | rfl | rfl <;> rfl
          · exact put (by rw [hBk2, c2, Bool.or_true])
      have no : (decide (n_w (s_nd s) i ≠ n_w (s_nd s) k) && (!(s_lk s (n_w (s_nd s) k)).testBit (n_q (s_nd s) i) && !(s_lk s (n_w (s_nd s) i)).testBit (n_q (s_nd s) k))) = false → z_V K 67 [(0, .ref 7), (1, .int (nI i)), (2, .int (nI (o_m B k))), (3, .int (nI k))] [] (z_s (s_nl s)) I J 0 0 := by
        intro e2
        refine v_iconst (v := nI 0) E dX2_canBeGroupedWith_67 (by decide) ?_
        exact tail false e2.symm
      refine v_iload_n E dX2_canBeGroupedWith_4 rfl ?_
      refine v_aload_n E dX2_canBeGroupedWith_5 rfl ?_
      refine v_callV1 E dX2_canBeGroupedWith_6 k_X2_60 Y_X2_sortedCount (m_sorted d (s_nl s) _ I J hN.1 h10) rfl rfl rfl (Nat.le_of_ble_eq_true rfl) ?_
      refine v_icmp_geN (tgt := 102) E dX2_canBeGroupedWith_9 (by decide) (by omega) (by omega) (fun c => ?_) (fun c => ?_)
      · exact absurd c (by omega)
      · refine v_aload_n E dX2_canBeGroupedWith_12 rfl ?_
        refine v_getR E f_X2_9 dX2_canBeGroupedWith_13 rfl rfl rfl ?_
        refine v_iload_n E dX2_canBeGroupedWith_16 rfl ?_
        refine v_ialoadE E dX2_canBeGroupedWith_17 rfl rfl (by omega) (by decide) (hN.2 i hi).1 ?_
        refine v_aload_n E dX2_canBeGroupedWith_18 rfl ?_
        refine v_getR E f_X2_9 dX2_canBeGroupedWith_19 rfl rfl rfl ?_
        refine v_iload_n E dX2_canBeGroupedWith_22 rfl ?_
        refine v_ialoadE E dX2_canBeGroupedWith_23 rfl rfl (by omega) (by decide) (hN.2 k hk).1 ?_
        refine v_icmp_eqN (tgt := 67) E dX2_canBeGroupedWith_24 (by decide) (by omega) (by omega) (fun c1 => ?_) (fun c1 => ?_)
        · exact no (by rw [decide_eq_false (by omega)]; rfl)
        · refine v_aload_n E dX2_canBeGroupedWith_27 rfl ?_
          refine v_getR E f_X2_15 dX2_canBeGroupedWith_28 rfl rfl rfl ?_
          refine v_iload_n E dX2_canBeGroupedWith_31 rfl ?_
          refine v_ialoadE E dX2_canBeGroupedWith_32 rfl rfl (by omega) (by decide) (hN.2 i hi).2.1 ?_
          refine v_aload_n E dX2_canBeGroupedWith_33 rfl ?_
          refine v_getR E f_X2_18 dX2_canBeGroupedWith_34 rfl rfl rfl ?_
          refine v_iload_n E dX2_canBeGroupedWith_37 rfl ?_
          refine v_ialoadE E dX2_canBeGroupedWith_38 rfl rfl (by omega) (by decide) (hN.2 k hk).2.2 ?_
          refine v_callN1 E dX2_canBeGroupedWith_39 k_nN Y_X3_isIn (m_isIn (d + 1) (z_s (s_nl s)) I J _ _ (by omega) (by omega)) rfl rfl (Nat.le_of_ble_eq_true rfl) ?_
          refine v_if_neB (tgt := 67) E dX2_canBeGroupedWith_42 (by decide)  (fun c2 => ?_) (fun c2 => ?_)
          · exact no (by rw [c2]; simp)
          · refine v_aload_n E dX2_canBeGroupedWith_45 rfl ?_
            refine v_getR E f_X2_15 dX2_canBeGroupedWith_46 rfl rfl rfl ?_
            refine v_iload_n E dX2_canBeGroupedWith_49 rfl ?_
            refine v_ialoadE E dX2_canBeGroupedWith_50 rfl rfl (by omega) (by decide) (hN.2 k hk).2.1 ?_
            refine v_aload_n E dX2_canBeGroupedWith_51 rfl ?_
            refine v_getR E f_X2_18 dX2_canBeGroupedWith_52 rfl rfl rfl ?_
            refine v_iload_n E dX2_canBeGroupedWith_55 rfl ?_
            refine v_ialoadE E dX2_canBeGroupedWith_56 rfl rfl (by omega) (by decide) (hN.2 i hi).2.2 ?_
            refine v_callN1 E dX2_canBeGroupedWith_57 k_nN Y_X3_isIn (m_isIn (d + 1) (z_s (s_nl s)) I J _ _ (by omega) (by omega)) rfl rfl (Nat.le_of_ble_eq_true rfl) ?_
            refine v_if_neB (tgt := 67) E dX2_canBeGroupedWith_60 (by decide)  (fun c3 => ?_) (fun c3 => ?_)
            · exact no (by rw [c3]; simp)
            · refine v_iconst (v := nI 1) E dX2_canBeGroupedWith_63 (by decide) ?_
              refine v_goto (tgt := 68) E dX2_canBeGroupedWith_64 (by decide) ?_
              exact tail true (by rw [c2, c3, decide_eq_true c1]; rfl)
  refine loop 0 (by omega) _ ?_
  intro q hq
  simp only [List.mem_cons, List.not_mem_nil, or_false] at hq
  rcases hq with rfl | rfl | rfl | rfl <;> rfl
theorem m_fewestOfSeveral (d nl : Nat) (gc : Nat → Nat → Bool) (I : zI) (J : zJ) (set : Nat) (hs : set < 1024) (h0 : 0 < set) (hO : ∀ j, j < set → I 12 j = nI (g_T gc j)) (hG : g_G gc set = false) : z_C yX2_fewestOfSeveral cX2_fewestOfSeveral 6 (some .int) (d + 1) [.ref 7, .int (nI set)] (z_s nl) I J 0 0 (z_q (some (.int (nI (g_T gc set)))) (z_s nl) I J) := by
  have hl := g_low_ok set hs h0
  have hol : q_df set (q_low set) < set := g_ok_lt (gc := gc) hs h0 (g_single hs h0)
  refine z_C.of (by decide) (Nat.le_of_ble_eq_true rfl) fun K E X => ?_
  refine v_iload_n E dX2_fewestOfSeveral_0 rfl ?_
  refine v_callS1 E dX2_fewestOfSeveral_1 k_X2_84 Y_J6_lowestOneBit_0f7a4 (m_lowestOneBit d (z_s nl) I J set hs) rfl rfl (Nat.le_of_ble_eq_true rfl) ?_
  refine v_istore_n E dX2_fewestOfSeveral_4 (by decide) ?_
  refine v_iload_n E dX2_fewestOfSeveral_5 rfl ?_
  refine v_iload_n E dX2_fewestOfSeveral_6 rfl ?_
  refine v_iconst (v := -1) E dX2_fewestOfSeveral_7 (by decide) ?_
  refine v_ixor E dX2_fewestOfSeveral_8 ?_
  refine v_iand E dX2_fewestOfSeveral_9 ?_
  refine v_top (q_dif set (q_low set)) ?_
  generalize hoth : q_df set (q_low set) = oth at *
  refine v_istore_n E dX2_fewestOfSeveral_10 (by decide) ?_
  refine v_bipush (v := nI 10) E dX2_fewestOfSeveral_11 (by decide) ?_
  refine v_istore E dX2_fewestOfSeveral_13 (by decide) ?_
  refine v_iload_n E dX2_fewestOfSeveral_15 rfl ?_
  refine v_istore E dX2_fewestOfSeveral_16 (by decide) ?_
  have loop : ∀ part, q_df part oth = 0 → ∀ few, few ≤ 10 → (∀ x, q_df x oth = 0 → part ≤ x → x < oth → g_ok gc set (q_low set ||| x) = true → few ≤ 1 + g_T gc (q_df oth x)) → (10 ≤ few ∨ ∃ g, g_ok gc set g = true ∧ few = 1 + g_T gc (q_df set g)) → ∀ ls : zL, (∀ q ∈ [(0, Value.ref 7), (1, .int (nI set)), (2, .int (nI (q_low set))), (3, .int (nI oth)), (4, .int (nI few)), (5, .int (nI part))], z_at ls q.1 = some q.2) → z_V K 18 ls [] (z_s nl) I J 0 0 := by
    intro part
    induction part using Nat.strongRecOn with
    | _ part ih =>
      intro hp few hf h1 h2 ls hls
      refine v_ls hls ?_
      have hpl := g_sub_le hp
      refine v_iload E dX2_fewestOfSeveral_18 rfl ?_
      refine v_if_leN (tgt := 67) E dX2_fewestOfSeveral_20 (by decide) (by omega) (fun c => ?_) (fun c => ?_)
      · refine v_iload E dX2_fewestOfSeveral_67 rfl ?_
        refine v_top (congrArg nI (g_T_uniq (gc := gc) hs h0 (fun g hg => ?_) h2)) ?_
        · have hg' := g_ok_iff.mp hg
          have hne : g ≠ set := fun e => by
            rw [e, hG] at hg'
            cases hg'.2.2
          have ho := g_out hs h0 hg'.1 hg'.2.1 hne
          rw [hoth] at ho
          have hi := g_in hs h0 (x := q_df g (q_low set)) (by rw [hoth]; exact ho.1) (by rw [hoth]; exact ho.2.1)
          rw [hoth, ho.2.2] at hi
          rw [hi.2.2.2]
          exact h1 _ ho.1 (by omega) ho.2.1 (by rw [ho.2.2]; exact hg)
        · exact v_iret E X dX2_fewestOfSeveral_69 z_qq
      · have hp' : q_df ((part - 1) &&& oth) oth = 0 := g_sub.mpr fun i hi => by
          rw [Nat.testBit_and, Bool.and_eq_true] at hi
          exact hi.2
        have hlt : (part - 1) &&& oth < part := by
          have : (part - 1) &&& oth ≤ part - 1 := Nat.and_le_left
          omega
        refine v_iload E dX2_fewestOfSeveral_23 rfl ?_
        refine v_iconst (v := nI 1) E dX2_fewestOfSeveral_25 (by decide) ?_
        refine v_isubN E dX2_fewestOfSeveral_26 (by omega) ?_
        refine v_iload_n E dX2_fewestOfSeveral_27 rfl ?_
        refine v_iandN E dX2_fewestOfSeveral_28 ?_
        refine v_istore E dX2_fewestOfSeveral_29 (by decide) ?_
        generalize hpe : (part - 1) &&& oth = part' at *
        have hi := g_in hs h0 (x := part') (by rw [hoth]; exact hp') (by rw [hoth]; omega)
        rw [hoth] at hi
        have hT10 := g_T_10 gc (set := q_low set ||| part') (by omega)
        have hpos : 0 < q_low set ||| part' := by
          rcases Nat.eq_zero_or_pos (q_low set ||| part') with h | h
          · have := hi.2.2.1
            rw [h, Nat.zero_testBit] at this
            cases this
          · exact h
        have h1n : ∀ few', few' ≤ few → (g_ok gc set (q_low set ||| part') = true → few' ≤ 1 + g_T gc (q_df oth part')) → ∀ x, q_df x oth = 0 → part' ≤ x → x < oth → g_ok gc set (q_low set ||| x) = true → few' ≤ 1 + g_T gc (q_df oth x) := by
          intro few' hle hself x hx hpx hxo hgx
          rcases Nat.lt_or_ge x part with hlt2 | hge
          · have := g_prev part x oth hx hp hlt2
            rw [hpe] at this
            have e : x = part' := by omega
            subst e
            exact hself hgx
          · exact Nat.le_trans hle (h1 x hx hge hxo hgx)
        refine v_aload_n E dX2_fewestOfSeveral_31 rfl ?_
        refine v_getR E f_X2_24 dX2_fewestOfSeveral_32 rfl rfl rfl ?_
        refine v_iload_n E dX2_fewestOfSeveral_35 rfl ?_
        refine v_iload E dX2_fewestOfSeveral_36 rfl ?_
        refine v_iorN E dX2_fewestOfSeveral_38 ?_
        refine v_ialoadE E dX2_fewestOfSeveral_39 rfl rfl (show q_low set ||| part' < 1024 by omega) (by decide) (hO _ hi.1) ?_
        refine v_iconst (v := nI 1) E dX2_fewestOfSeveral_40 (by decide) ?_
        refine v_icmp_neN (tgt := 18) E dX2_fewestOfSeveral_41 (by decide) (by omega) (by omega) (fun c1 => ?_) (fun c1 => ?_)
        · refine ih part' hlt hp' few hf (h1n few (Nat.le_refl _) (fun hg => ?_)) h2 _ ?_
          · exact absurd ((g_T_one (by omega) hpos).mpr (g_ok_iff.mp hg).2.2) c1
          · intro q hq
            simp only [List.mem_cons, List.not_mem_nil, or_false] at hq
            rcases hq with rfl | rfl | rfl | rfl | rfl | rfl <;> rfl
        · have hgo : g_ok gc set (q_low set ||| part') = true := g_ok_iff.mpr ⟨hi.2.1, hi.2.2.1, (g_T_one (by omega) hpos).mp c1⟩
          have hdl : q_df oth part' < set := Nat.lt_of_le_of_lt (g_df_le _ _) hol
          have hT2 := g_T_10 gc (set := q_df oth part') (by omega)
          refine v_iload E dX2_fewestOfSeveral_44 rfl ?_
          refine v_iconst (v := nI 1) E dX2_fewestOfSeveral_46 (by decide) ?_
          refine v_aload_n E dX2_fewestOfSeveral_47 rfl ?_
          refine v_getR E f_X2_24 dX2_fewestOfSeveral_48 rfl rfl rfl ?_
          refine v_iload_n E dX2_fewestOfSeveral_51 rfl ?_
          refine v_iload E dX2_fewestOfSeveral_52 rfl ?_
          refine v_iconst (v := -1) E dX2_fewestOfSeveral_54 (by decide) ?_
          refine v_ixor E dX2_fewestOfSeveral_55 ?_
          refine v_iand E dX2_fewestOfSeveral_56 ?_
          refine v_top (q_dif oth part') ?_
          refine v_ialoadE E dX2_fewestOfSeveral_57 rfl rfl (show q_df oth part' < 1024 by omega) (by decide) (hO _ hdl) ?_
          refine v_iaddN E dX2_fewestOfSeveral_58 ?_
          refine v_minN E dX2_fewestOfSeveral_59 k_X2_54 (by omega) (by omega) (Nat.le_of_ble_eq_true rfl) ?_
          refine v_istore E dX2_fewestOfSeveral_62 (by decide) ?_
          refine v_goto (tgt := 18) E dX2_fewestOfSeveral_64 (by decide) ?_
          refine ih part' hlt hp' (min few (1 + g_T gc (q_df oth part'))) (Nat.le_trans (Nat.min_le_left _ _) hf) (h1n _ (Nat.min_le_left _ _) (fun _ => Nat.min_le_right _ _)) ?_ _ ?_
          · rcases Nat.le_total few (1 + g_T gc (q_df oth part')) with h | h
            · rw [Nat.min_eq_left h]
              exact h2
            · rw [Nat.min_eq_right h]
              exact Or.inr ⟨_, hgo, by rw [hi.2.2.2]⟩
          · intro q hq
            simp only [List.mem_cons, List.not_mem_nil, or_false] at hq
            rcases hq with rfl | rfl | rfl | rfl | rfl | rfl <;> rfl
  refine loop oth (g_df_00 oth) 10 (by omega) (fun x hx h3 h4 => absurd h4 (by omega)) (Or.inl (by omega)) _ ?_
  intro q hq
  simp only [List.mem_cons, List.not_mem_nil, or_false] at hq
  rcases hq with rfl | rfl | rfl | rfl | rfl | rfl <;> rfl
def gdI (gc : Nat → Nat → Bool) (n : Nat) (I : zI) : Prop := ∀ j, j < 2 ^ n → I 12 j = nI (g_T gc j)
theorem m_fillGroups (d : Nat) (s : zS) (hw : s_wf s) (I : zI) (J : zJ) (hN : ndI s (s_nd s) I) (h10 : (s_nd s).length ≤ 10) : z_C yX2_fillGroups cX2_fillGroups 5 none (d + 3) [.ref 7] (z_s (s_nl s)) I J 0 0 (fun r h' I' J' => r = none ∧ h' = z_s (s_nl s) ∧ gdI (s_gc s) (s_nd s).length I' ∧ foI I I' ∧ J' = J) := by
  have hp2 := p2n h10
  have hpp := Nat.two_pow_pos (s_nd s).length
  refine z_C.of (by decide) (Nat.le_of_ble_eq_true rfl) fun K E X => ?_
  refine v_iconst (v := nI 0) E dX2_fillGroups_0 (by decide) ?_
  refine v_istore_n E dX2_fillGroups_1 (by decide) ?_
  have second : ∀ I1 : zI, (∀ i, i < (s_nd s).length → I1 11 i = nI (s_gp s i)) → foI I I1 → z_V K 27 [(0, .ref 7), (1, .int (nI (s_nd s).length))] [] (z_s (s_nl s)) I1 J 0 0 := by
    intro I1 h1 h2
    refine v_aload_n E dX2_fillGroups_27 rfl ?_
    refine v_getR E f_X2_24 dX2_fillGroups_28 rfl rfl rfl ?_
    refine v_iconst (v := nI 0) E dX2_fillGroups_31 (by decide) ?_
    refine v_iconst (v := nI 0) E dX2_fillGroups_32 (by decide) ?_
    refine v_iastore E dX2_fillGroups_33 rfl rfl (by decide) (by decide) ?_
    refine v_iconst (v := nI 1) E dX2_fillGroups_34 (by decide) ?_
    refine v_istore_n E dX2_fillGroups_35 (by decide) ?_
    have l2 : ∀ k, k ≤ 2 ^ (s_nd s).length → 0 < k → ∀ I2 : zI, (∀ i, i < (s_nd s).length → I2 11 i = nI (s_gp s i)) → (∀ j, j < k → I2 12 j = nI (g_T (s_gc s) j)) → foI I I2 → ∀ ls : zL, (∀ q ∈ [(0, Value.ref 7), (1, .int (nI k))], z_at ls q.1 = some q.2) → z_V K 36 ls [] (z_s (s_nl s)) I2 J 0 0 := by
      refine z_for _ ?_ (fun k hk ih => ?_)
      · intro _ I2 g1 g2 g3 ls hls
        have hN2 := ndI_fo hN g3
        refine v_ls hls ?_
        refine v_iload_n E dX2_fillGroups_36 rfl ?_
        refine v_aload_n E dX2_fillGroups_37 rfl ?_
        refine v_callV1 E dX2_fillGroups_38 k_X2_34 Y_X2_allNeeds (m_allNeeds d (s_nl s) _ I2 J hN2.1 h10) rfl rfl rfl (Nat.le_of_ble_eq_true rfl) ?_
        refine v_icmp_gtN (tgt := 111) E dX2_fillGroups_41 (by decide) (by omega) (by omega) (fun c => ?_) (fun c => ?_)
        · exact v_vret E X dX2_fillGroups_111 ⟨rfl, rfl, g2, g3, rfl⟩
        · exact absurd c (by omega)
      · intro hk0 I2 g1 g2 g3 ls hls
        have hN2 := ndI_fo hN g3
        have hk10 : k < 1024 := by omega
        have hl := g_low_ok k hk10 hk0
        have hol : q_df k (q_low k) < k := g_ok_lt (gc := s_gc s) hk10 hk0 (g_single hk10 hk0)
        have hcn : q_ctz k < (s_nd s).length := by
          rcases Nat.lt_or_ge (q_ctz k) (s_nd s).length with h | h
          · exact h
          · have := hl.2.2.1
            rw [q_hi hk h] at this
            cases this
        have hT := g_T_10 (s_gc s) (set := q_df k (q_low k)) (by omega)
        have hgl : s_gp s (q_ctz k) < 2 ^ (s_nd s).length := o_m_lt _ _
        refine v_ls hls ?_
        refine v_iload_n E dX2_fillGroups_36 rfl ?_
        refine v_aload_n E dX2_fillGroups_37 rfl ?_
        refine v_callV1 E dX2_fillGroups_38 k_X2_34 Y_X2_allNeeds (m_allNeeds d (s_nl s) _ I2 J hN2.1 h10) rfl rfl rfl (Nat.le_of_ble_eq_true rfl) ?_
        refine v_icmp_gtN (tgt := 111) E dX2_fillGroups_41 (by decide) (by omega) (by omega) (fun c => ?_) (fun c => ?_)
        · exact absurd c (by omega)
        · have fin : ∀ ls : zL, (∀ q ∈ [(0, Value.ref 7), (1, .int (nI k))], z_at ls q.1 = some q.2) → z_V K 104 ls [.int (nI (g_T (s_gc s) k)), .int (nI k), .ref 12] (z_s (s_nl s)) I2 J 0 0 := by
            intro ls hls
            refine v_ls hls ?_
            refine v_iastore E dX2_fillGroups_104 rfl rfl (by omega) (by decide) ?_
            refine v_inc E dX2_fillGroups_105 rfl (by decide) ?_
            refine v_goto (tgt := 36) E dX2_fillGroups_108 (by decide) ?_
            refine ih (by omega) _ (fun j hj => ?_) (fun j hj => ?_) (fun q q1 q2 => ?_) _ ?_
            · rw [z_u_row (by decide)]
              exact g1 j hj
            · by_cases e : j = k
              · subst e
                rw [z_u_same]
              · rw [z_u_col e]
                exact g2 j (by omega)
            · rw [z_u_row q2]
              exact g3 q q1 q2
            · intro q hq
              simp only [List.mem_cons, List.not_mem_nil, or_false] at hq
              rcases hq with rfl | rfl <;> rfl
          have tail : ∀ b : Bool, b = g_G (s_gc s) k → z_V K 83 [(0, .ref 7), (1, .int (nI k)), (2, .int (nI (q_ctz k))), (3, .int (nI (q_df k (q_low k))))] [.int (nI b.toNat)] (z_s (s_nl s)) I2 J 0 0 := by
            intro b hb
            refine v_istore E dX2_fillGroups_83 (by decide) ?_
            refine v_aload_n E dX2_fillGroups_85 rfl ?_
            refine v_getR E f_X2_24 dX2_fillGroups_86 rfl rfl rfl ?_
            refine v_iload_n E dX2_fillGroups_89 rfl ?_
            refine v_iload E dX2_fillGroups_90 rfl ?_
            refine v_if_eqB (tgt := 99) E dX2_fillGroups_92 (by decide)  (fun c5 => ?_) (fun c5 => ?_)
            · refine v_aload_n E dX2_fillGroups_99 rfl ?_
              refine v_iload_n E dX2_fillGroups_100 rfl ?_
              refine v_callV1 E dX2_fillGroups_101 k_X2_81 Y_X2_fewestOfSeveral (m_fewestOfSeveral (d + 1) (s_nl s) (s_gc s) I2 J k hk10 hk0 g2 (by rw [← hb]; exact c5)) rfl rfl rfl (Nat.le_of_ble_eq_true rfl) ?_
              refine fin _ ?_
              intro q hq
              simp only [List.mem_cons, List.not_mem_nil, or_false] at hq
              rcases hq with rfl | rfl <;> rfl
            · refine v_iconst (v := nI 1) E dX2_fillGroups_95 (by decide) ?_
              refine v_goto (tgt := 104) E dX2_fillGroups_96 (by decide) ?_
              refine v_top (congrArg nI ((g_T_one hk10 hk0).mpr (by rw [← hb]; exact c5)).symm) ?_
              refine fin _ ?_
              intro q hq
              simp only [List.mem_cons, List.not_mem_nil, or_false] at hq
              rcases hq with rfl | rfl <;> rfl
          have hsub : q_df (q_df k (q_low k)) (s_gp s (q_ctz k)) = 0 ↔ ∀ j, (q_df k (q_low k)).testBit j = true → s_gc s (q_ctz k) j = true := by
            rw [g_sub]
            constructor
            · intro H j hj
              have := H j hj
              unfold s_gp at this
              rw [o_m_bit, Bool.and_eq_true] at this
              exact this.2
            · intro H j hj
              unfold s_gp
              rw [o_m_bit, Bool.and_eq_true, decide_eq_true_eq]
              refine ⟨?_, H j hj⟩
              rcases Nat.lt_or_ge j (s_nd s).length with h | h
              · exact h
              · rw [q_hi (show q_df k (q_low k) < 2 ^ (s_nd s).length by omega) h] at hj
                cases hj
          have hrec := g_G_rec (s_gc_sy s) hk10 hk0
          have hle1 : g_T (s_gc s) (q_df k (q_low k)) ≤ 1 ↔ g_G (s_gc s) (q_df k (q_low k)) = true := by
            rcases Nat.eq_zero_or_pos (q_df k (q_low k)) with h | h
            · rw [h, g_T_0]
              exact ⟨fun _ => g_G_iff.mpr fun i _ j _ h1 => (by rw [Nat.zero_testBit] at h1; exact absurd h1 Bool.false_ne_true), fun _ => by omega⟩
            · have h4 := g_T_one (gc := s_gc s) (set := q_df k (q_low k)) (by omega) h
              have h5 := g_T_pos (gc := s_gc s) (set := q_df k (q_low k)) (by omega) h
              rw [← h4]
              omega
          have notG : ¬ (g_T (s_gc s) (q_df k (q_low k)) ≤ 1 ∧ q_df (q_df k (q_low k)) (s_gp s (q_ctz k)) = 0) → z_V K 82 [(0, .ref 7), (1, .int (nI k)), (2, .int (nI (q_ctz k))), (3, .int (nI (q_df k (q_low k))))] [] (z_s (s_nl s)) I2 J 0 0 := by
            intro hn
            refine v_iconst (v := nI 0) E dX2_fillGroups_82 (by decide) ?_
            refine tail false ?_
            rw [hle1, hsub, ← hrec] at hn
            exact (Bool.not_eq_true _ ▸ hn : g_G (s_gc s) k = false).symm
          refine v_iload_n E dX2_fillGroups_44 rfl ?_
          refine v_callS1 E dX2_fillGroups_45 k_X2_76 Y_J6_numberOfTrailingZeros_0f7a4 (m_ctz (d + 2) (z_s (s_nl s)) I2 J k hk10 hk0) rfl rfl (Nat.le_of_ble_eq_true rfl) ?_
          refine v_istore_n E dX2_fillGroups_48 (by decide) ?_
          refine v_iload_n E dX2_fillGroups_49 rfl ?_
          refine v_iload_n E dX2_fillGroups_50 rfl ?_
          refine v_iconst (v := nI 1) E dX2_fillGroups_51 (by decide) ?_
          refine v_isubN E dX2_fillGroups_52 (by omega) ?_
          refine v_iandN E dX2_fillGroups_53 ?_
          rw [hl.2.2.2.1]
          refine v_istore_n E dX2_fillGroups_54 (by decide) ?_
          refine v_aload_n E dX2_fillGroups_55 rfl ?_
          refine v_getR E f_X2_24 dX2_fillGroups_56 rfl rfl rfl ?_
          refine v_iload_n E dX2_fillGroups_59 rfl ?_
          refine v_ialoadE E dX2_fillGroups_60 rfl rfl (show q_df k (q_low k) < 1024 by omega) (by decide) (g2 _ hol) ?_
          refine v_iconst (v := nI 1) E dX2_fillGroups_61 (by decide) ?_
          refine v_icmp_gtN (tgt := 82) E dX2_fillGroups_62 (by decide) (by omega) (by omega) (fun c3 => ?_) (fun c3 => ?_)
          · exact notG (fun z => by omega)
          · refine v_iload_n E dX2_fillGroups_65 rfl ?_
            refine v_aload_n E dX2_fillGroups_66 rfl ?_
            refine v_getR E f_X2_21 dX2_fillGroups_67 rfl rfl rfl ?_
            refine v_iload_n E dX2_fillGroups_70 rfl ?_
            refine v_ialoadE E dX2_fillGroups_71 rfl rfl (by omega) (by decide) (g1 _ hcn) ?_
            refine v_iconst (v := -1) E dX2_fillGroups_72 (by decide) ?_
            refine v_ixor E dX2_fillGroups_73 ?_
            refine v_iand E dX2_fillGroups_74 ?_
            refine v_top (q_dif (q_df k (q_low k)) (s_gp s (q_ctz k))) ?_
            have hdl : q_df (q_df k (q_low k)) (s_gp s (q_ctz k)) < 1024 := q_df_lt (k := 10) (show q_df k (q_low k) < 2 ^ 10 by omega)
            refine v_if_neN (tgt := 82) E dX2_fillGroups_75 (by decide) (by omega) (fun c4 => ?_) (fun c4 => ?_)
            · exact notG (fun z => by omega)
            · refine v_iconst (v := nI 1) E dX2_fillGroups_78 (by decide) ?_
              refine v_goto (tgt := 83) E dX2_fillGroups_79 (by decide) ?_
              exact tail true (hrec.mpr ⟨hle1.mp (by omega), hsub.mp c4⟩).symm
    refine l2 1 (by omega) (by omega) _ (fun j hj => ?_) (fun j hj => ?_) (fun q q1 q2 => ?_) _ ?_
    · rw [z_u_row (by decide)]
      exact h1 j hj
    · have : j = 0 := by omega
      subst this
      rw [z_u_same, g_T_0]
    · rw [z_u_row q2]
      exact h2 q q1 q2
    · intro q hq
      simp only [List.mem_cons, List.not_mem_nil, or_false] at hq
      rcases hq with rfl | rfl <;> rfl
  have l1 : ∀ k, k ≤ (s_nd s).length → ∀ I1 : zI, (∀ i, i < k → I1 11 i = nI (s_gp s i)) → foI I I1 → z_V K 2 [(0, .ref 7), (1, .int (nI k))] [] (z_s (s_nl s)) I1 J 0 0 := by
    refine z_for _ ?_ (fun k hk ih => ?_)
    · intro I1 h1 h2
      have hN1 := ndI_fo hN h2
      refine v_iload_n E dX2_fillGroups_2 rfl ?_
      refine v_aload_n E dX2_fillGroups_3 rfl ?_
      refine v_callV1 E dX2_fillGroups_4 k_X2_60 Y_X2_sortedCount (m_sorted (d + 1) (s_nl s) _ I1 J hN1.1 h10) rfl rfl rfl (Nat.le_of_ble_eq_true rfl) ?_
      refine v_icmp_geN (tgt := 27) E dX2_fillGroups_7 (by decide) (by omega) (by omega) (fun c => ?_) (fun c => ?_)
      · exact second I1 h1 h2
      · exact absurd c (by omega)
    · intro I1 h1 h2
      have hN1 := ndI_fo hN h2
      refine v_iload_n E dX2_fillGroups_2 rfl ?_
      refine v_aload_n E dX2_fillGroups_3 rfl ?_
      refine v_callV1 E dX2_fillGroups_4 k_X2_60 Y_X2_sortedCount (m_sorted (d + 1) (s_nl s) _ I1 J hN1.1 h10) rfl rfl rfl (Nat.le_of_ble_eq_true rfl) ?_
      refine v_icmp_geN (tgt := 27) E dX2_fillGroups_7 (by decide) (by omega) (by omega) (fun c => ?_) (fun c => ?_)
      · exact absurd c (by omega)
      · refine v_aload_n E dX2_fillGroups_10 rfl ?_
        refine v_getR E f_X2_21 dX2_fillGroups_11 rfl rfl rfl ?_
        refine v_iload_n E dX2_fillGroups_14 rfl ?_
        refine v_aload_n E dX2_fillGroups_15 rfl ?_
        refine v_iload_n E dX2_fillGroups_16 rfl ?_
        refine v_callV1 E dX2_fillGroups_17 k_X2_73 Y_X2_canBeGroupedWith (m_canBeGroupedWith d s hw I1 J hN1 h10 k hk) rfl rfl rfl (Nat.le_of_ble_eq_true rfl) ?_
        refine v_iastore E dX2_fillGroups_20 rfl rfl (by omega) (by decide) ?_
        refine v_inc E dX2_fillGroups_21 rfl (by decide) ?_
        refine v_goto (tgt := 2) E dX2_fillGroups_24 (by decide) ?_
        refine ih _ (fun j hj => ?_) (fun q q1 q2 => ?_)
        · by_cases e : j = k
          · subst e
            rw [z_u_same]
          · rw [z_u_col e]
            exact h1 j (by omega)
        · rw [z_u_row q1]
          exact h2 q q1 q2
  exact l1 0 (by omega) I (fun j hj => absurd hj (by omega)) (fun _ _ _ => rfl)
noncomputable def r_fewest (s : zS) : Nat := g_T (s_gc s) (2 ^ (s_nd s).length - 1)
theorem m_fewestGroups (d : Nat) (s : zS) (hw : s_wf s) (I : zI) (J : zJ) (hN : ndI s (s_nd s) I) (h10 : (s_nd s).length ≤ 10) : z_C yX2_fewestGroups cX2_fewestGroups 1 (some .int) (d + 4) [.ref 7] (z_s (s_nl s)) I J 0 0 (fun r h' I' J' => r = some (.int (nI (r_fewest s))) ∧ h' = z_s (s_nl s) ∧ gdI (s_gc s) (s_nd s).length I' ∧ foI I I' ∧ J' = J) := by
  have hp2 := p2n h10
  have hpp := Nat.two_pow_pos (s_nd s).length
  refine z_C.of (by decide) (Nat.le_of_ble_eq_true rfl) fun K E X => ?_
  refine v_aload_n E dX2_fewestGroups_0 rfl ?_
  refine v_callV E dX2_fewestGroups_1 k_X2_45 Y_X2_fillGroups (m_fillGroups d s hw I J hN h10) rfl rfl rfl (Nat.le_of_ble_eq_true rfl) ?_
  rintro r h' I' J' ⟨rfl, rfl, g1, g2, rfl⟩
  refine v_aload_n E dX2_fewestGroups_4 rfl ?_
  refine v_getR E f_X2_24 dX2_fewestGroups_5 rfl rfl rfl ?_
  refine v_aload_n E dX2_fewestGroups_8 rfl ?_
  refine v_callV1 E dX2_fewestGroups_9 k_X2_34 Y_X2_allNeeds (m_allNeeds (d + 1) (s_nl s) _ I' J' (ndI_fo hN g2).1 h10) rfl rfl rfl (Nat.le_of_ble_eq_true rfl) ?_
  refine v_ialoadE E dX2_fewestGroups_12 rfl rfl (by omega) (by decide) (g1 _ (by omega)) ?_
  exact v_iret E X dX2_fewestGroups_13 ⟨rfl, rfl, g1, g2, rfl⟩
theorem m_firstOfFewest (d nl n : Nat) (gc : Nat → Nat → Bool) (I : zI) (J : zJ) (h10 : n ≤ 10) (hO : gdI gc n I) (set : Nat) (hs : set < 2 ^ n) (h0 : 0 < set) : z_C yX2_firstOfFewest cX2_firstOfFewest 5 (some .int) (d + 1) [.ref 7, .int (nI set)] (z_s nl) I J 0 0 (z_q (some (.int (nI (g_1st gc set)))) (z_s nl) I J) := by
  have hp2 := p2n h10
  have hs10 : set < 1024 := by omega
  have hl := g_low_ok set hs10 h0
  have hlow := g_sub_le (g_ok_iff.mp (g_single (gc := gc) hs10 h0)).1
  have hok := g_1st_ok (gc := gc) hs10 h0
  have hTs := g_T_10 gc hs10
  have hbit : ∀ g, (g &&& q_low set = 0) ↔ g.testBit (q_ctz set) = false := by
    intro g
    rw [hl.1]
    constructor
    · intro h
      have h2 : (g &&& 2 ^ q_ctz set).testBit (q_ctz set) = false := by rw [h, Nat.zero_testBit]
      rw [Nat.testBit_and, Nat.testBit_two_pow, decide_eq_true rfl, Bool.and_true] at h2
      exact h2
    · intro h
      apply Nat.eq_of_testBit_eq
      intro i
      rw [Nat.testBit_and, Nat.testBit_two_pow, Nat.zero_testBit]
      by_cases e : q_ctz set = i
      · rw [← e, h]
        rfl
      · rw [decide_eq_false e, Bool.and_false]
  refine z_C.of (by decide) (Nat.le_of_ble_eq_true rfl) fun K E X => ?_
  refine v_iload_n E dX2_firstOfFewest_0 rfl ?_
  refine v_callS1 E dX2_firstOfFewest_1 k_X2_84 Y_J6_lowestOneBit_0f7a4 (m_lowestOneBit d (z_s nl) I J set hs10) rfl rfl (Nat.le_of_ble_eq_true rfl) ?_
  refine v_istore_n E dX2_firstOfFewest_4 (by decide) ?_
  refine v_iload_n E dX2_firstOfFewest_5 rfl ?_
  refine v_istore_n E dX2_firstOfFewest_6 (by decide) ?_
  have loop : ∀ k, k ≤ set + 1 → (∀ i, i < k → g_P gc set i = false) → ∀ ls : zL, (∀ q ∈ [(0, Value.ref 7), (1, .int (nI set)), (2, .int (nI (q_low set))), (3, .int (nI k))], z_at ls q.1 = some q.2) → z_V K 7 ls [] (z_s nl) I J 0 0 := by
    refine z_for _ ?_ (fun k hk ih => ?_)
    · intro hno ls hls
      exfalso
      have := hno (g_1st gc set) (by have := g_sub_le (g_ok_iff.mp hok.2.1).1; omega)
      rw [hok.1] at this
      cases this
    · intro hno ls hls
      refine v_ls hls ?_
      have ne : g_P gc set k = false → ∀ ls : zL, (∀ q ∈ [(0, Value.ref 7), (1, .int (nI set)), (2, .int (nI (q_low set))), (3, .int (nI k))], z_at ls q.1 = some q.2) → z_V K 71 ls [] (z_s nl) I J 0 0 := by
        intro e ls hls
        refine v_ls hls ?_
        refine v_inc E dX2_firstOfFewest_71 rfl (by decide) ?_
        refine v_goto (tgt := 7) E dX2_firstOfFewest_74 (by decide) ?_
        refine ih (fun i hi => ?_) _ ?_
        · rcases Nat.lt_or_eq_of_le (Nat.le_of_lt_succ hi) with h | h
          · exact hno i h
          · rw [h]
            exact e
        · intro q hq
          simp only [List.mem_cons, List.not_mem_nil, or_false] at hq
          rcases hq with rfl | rfl | rfl | rfl <;> rfl
      have tail : ∀ b : Bool, b = g_ok gc set k → z_V K 41 [(0, .ref 7), (1, .int (nI set)), (2, .int (nI (q_low set))), (3, .int (nI k))] [.int (nI b.toNat)] (z_s nl) I J 0 0 := by
        intro b hb
        refine v_istore E dX2_firstOfFewest_41 (by decide) ?_
        refine v_iload E dX2_firstOfFewest_43 rfl ?_
        refine v_if_eqB (tgt := 71) E dX2_firstOfFewest_45 (by decide)  (fun c5 => ?_) (fun c5 => ?_)
        · refine ne (by unfold g_P; rw [← hb, c5]; rfl) _ ?_
          intro q hq
          simp only [List.mem_cons, List.not_mem_nil, or_false] at hq
          rcases hq with rfl | rfl | rfl | rfl <;> rfl
        · have hdl : q_df set k < 2 ^ n := q_df_lt hs
          have hTd := g_T_10 gc (set := q_df set k) (by omega)
          refine v_iconst (v := nI 1) E dX2_firstOfFewest_48 (by decide) ?_
          refine v_aload_n E dX2_firstOfFewest_49 rfl ?_
          refine v_getR E f_X2_24 dX2_firstOfFewest_50 rfl rfl rfl ?_
          refine v_iload_n E dX2_firstOfFewest_53 rfl ?_
          refine v_iload_n E dX2_firstOfFewest_54 rfl ?_
          refine v_iconst (v := -1) E dX2_firstOfFewest_55 (by decide) ?_
          refine v_ixor E dX2_firstOfFewest_56 ?_
          refine v_iand E dX2_firstOfFewest_57 ?_
          refine v_top (q_dif set k) ?_
          refine v_ialoadE E dX2_firstOfFewest_58 rfl rfl (show q_df set k < 1024 by omega) (by decide) (hO _ hdl) ?_
          refine v_iaddN E dX2_firstOfFewest_59 ?_
          refine v_aload_n E dX2_firstOfFewest_60 rfl ?_
          refine v_getR E f_X2_24 dX2_firstOfFewest_61 rfl rfl rfl ?_
          refine v_iload_n E dX2_firstOfFewest_64 rfl ?_
          refine v_ialoadE E dX2_firstOfFewest_65 rfl rfl (by omega) (by decide) (hO set hs) ?_
          refine v_icmp_neN (tgt := 71) E dX2_firstOfFewest_66 (by decide) (by omega) (by omega) (fun c6 => ?_) (fun c6 => ?_)
          · refine ne (by unfold g_P; rw [decide_eq_false c6, Bool.and_false]) _ ?_
            intro q hq
            simp only [List.mem_cons, List.not_mem_nil, or_false] at hq
            rcases hq with rfl | rfl | rfl | rfl <;> rfl
          · have hPk : g_P gc set k = true := by unfold g_P; rw [← hb, c5, decide_eq_true c6]; rfl
            have e9 : g_1st gc set = k := by
              unfold g_1st
              rw [o_ff_skip (set + 1) k (by omega) hno, show set + 1 - k = (set - k) + 1 by omega]
              simp only [o_ff]
              rw [hPk]
              exact if_pos rfl
            refine v_iload_n E dX2_firstOfFewest_69 rfl ?_
            exact v_iret E X dX2_firstOfFewest_70 (z_qi (by rw [e9]))
      have no : g_ok gc set k = false → z_V K 40 [(0, .ref 7), (1, .int (nI set)), (2, .int (nI (q_low set))), (3, .int (nI k))] [] (z_s nl) I J 0 0 := by
        intro e
        refine v_iconst (v := nI 0) E dX2_firstOfFewest_40 (by decide) ?_
        exact tail false e.symm
      refine v_iload_n E dX2_firstOfFewest_7 rfl ?_
      refine v_iload_n E dX2_firstOfFewest_8 rfl ?_
      refine v_icmp_gtN (tgt := 77) E dX2_firstOfFewest_9 (by decide) (by omega) (by omega) (fun c => ?_) (fun c => ?_)
      · exact absurd c (by omega)
      · have hal : k &&& q_low set < 1024 := Nat.lt_of_le_of_lt Nat.and_le_left (show k < 1024 by omega)
        refine v_iload_n E dX2_firstOfFewest_12 rfl ?_
        refine v_iload_n E dX2_firstOfFewest_13 rfl ?_
        refine v_iandN E dX2_firstOfFewest_14 ?_
        refine v_if_eqN (tgt := 40) E dX2_firstOfFewest_15 (by decide) (by omega) (fun c1 => ?_) (fun c1 => ?_)
        · exact no (by unfold g_ok; rw [(hbit k).mp c1]; simp)
        · refine v_iload_n E dX2_firstOfFewest_18 rfl ?_
          refine v_iload_n E dX2_firstOfFewest_19 rfl ?_
          refine v_iconst (v := -1) E dX2_firstOfFewest_20 (by decide) ?_
          refine v_ixor E dX2_firstOfFewest_21 ?_
          refine v_iand E dX2_firstOfFewest_22 ?_
          refine v_top (q_dif k set) ?_
          have hdl : q_df k set < 1024 := q_df_lt (k := 10) (show k < 2 ^ 10 by omega)
          refine v_if_neN (tgt := 40) E dX2_firstOfFewest_23 (by decide) (by omega) (fun c2 => ?_) (fun c2 => ?_)
          · exact no (by unfold g_ok; rw [decide_eq_false (by omega)]; rfl)
          · have hkb : k.testBit (q_ctz set) = true := by
              cases hb : k.testBit (q_ctz set) with
              | true => rfl
              | false => exact absurd ((hbit k).mpr hb) (by omega)
            have hk0 : 0 < k := by
              rcases Nat.eq_zero_or_pos k with h | h
              · rw [h, Nat.zero_testBit] at hkb
                cases hkb
              · exact h
            have hTk := g_T_10 gc (set := k) (by omega)
            refine v_aload_n E dX2_firstOfFewest_26 rfl ?_
            refine v_getR E f_X2_24 dX2_firstOfFewest_27 rfl rfl rfl ?_
            refine v_iload_n E dX2_firstOfFewest_30 rfl ?_
            refine v_ialoadE E dX2_firstOfFewest_31 rfl rfl (by omega) (by decide) (hO k (by omega)) ?_
            refine v_iconst (v := nI 1) E dX2_firstOfFewest_32 (by decide) ?_
            refine v_icmp_neN (tgt := 40) E dX2_firstOfFewest_33 (by decide) (by omega) (by omega) (fun c3 => ?_) (fun c3 => ?_)
            · refine no ?_
              cases hg : g_ok gc set k with
              | false => rfl
              | true => exact absurd ((g_T_one (by omega) hk0).mpr (g_ok_iff.mp hg).2.2) c3
            · refine v_iconst (v := nI 1) E dX2_firstOfFewest_36 (by decide) ?_
              refine v_goto (tgt := 41) E dX2_firstOfFewest_37 (by decide) ?_
              exact tail true (g_ok_iff.mpr ⟨c2, hkb, (g_T_one (by omega) hk0).mp c3⟩).symm
  refine loop (q_low set) (by omega) (fun i hi => ?_) _ ?_
  · unfold g_P g_ok
    rw [Nat.testBit_lt_two_pow (show i < 2 ^ q_ctz set by rw [← hl.1]; exact hi)]
    simp
  · intro q hq
    simp only [List.mem_cons, List.not_mem_nil, or_false] at hq
    rcases hq with rfl | rfl | rfl | rfl <;> rfl
noncomputable def r_groupN (s : zS) (k : Nat) : Nat := g_1st (s_gc s) (g_set (s_gc s) (s_nd s).length k)
theorem m_inTheGroups (d : Nat) (s : zS) (hw : s_wf s) (I : zI) (J : zJ) (hN : ndI s (s_nd s) I) (h10 : (s_nd s).length ≤ 10) (x : Int32) : z_C yX2_inTheGroups cX2_inTheGroups 4 (some .int) (d + 5) [.ref 7, .int x] (z_s (s_nl s)) I J 0 0 (fun r h' I' J' => r = some (.int (if z_isx x (r_fewest s) then nI (r_groupN s x.toNatClampNeg) else -1)) ∧ h' = z_s (s_nl s) ∧ foI I I' ∧ J' = J) := by
  have hp2 := p2n h10
  have hpp := Nat.two_pow_pos (s_nd s).length
  have hll : r_fewest s ≤ 10 := g_T_10 (s_gc s) (show 2 ^ (s_nd s).length - 1 < 1024 by omega)
  refine z_C.of (by decide) (Nat.le_of_ble_eq_true rfl) fun K E X => ?_
  have no : z_isx x (r_fewest s) = false → ∀ I', foI I I' → z_V K 12 [(0, .ref 7), (1, .int x)] [] (z_s (s_nl s)) I' J 0 0 := by
    intro e I' hf
    refine v_iconst (v := -1) E dX2_inTheGroups_12 (by decide) ?_
    exact v_iret E X dX2_inTheGroups_13 ⟨by rw [e]; rfl, rfl, hf, rfl⟩
  refine v_iload_n E dX2_inTheGroups_0 rfl ?_
  refine v_if_lt (tgt := 12) E dX2_inTheGroups_1 (by decide)  (fun k1 => ?_) (fun k1 => ?_)
  · exact no (decide_eq_false (fun z => z.1 k1)) I (fun _ _ _ => rfl)
  · refine v_iload_n E dX2_inTheGroups_4 rfl ?_
    refine v_aload_n E dX2_inTheGroups_5 rfl ?_
    refine v_callV E dX2_inTheGroups_6 k_X2_48 Y_X2_fewestGroups (m_fewestGroups d s hw I J hN h10) rfl rfl rfl (Nat.le_of_ble_eq_true rfl) ?_
    rintro r h' I' J' ⟨rfl, rfl, g1, g2, rfl⟩
    refine v_icmp_lt (tgt := 14) E dX2_inTheGroups_9 (by decide)  (fun k2 => ?_) (fun k2 => ?_)
    · have e : z_isx x (r_fewest s) = true := decide_eq_true ⟨k1, k2⟩
      have e9 := e
      obtain ⟨a, ha, rfl⟩ := z_isx_true (by omega) e
      have hN' := ndI_fo hN g2
      refine v_aload_n E dX2_inTheGroups_14 rfl ?_
      refine v_callV1 E dX2_inTheGroups_15 k_X2_34 Y_X2_allNeeds (m_allNeeds (d + 2) (s_nl s) _ I' J' hN'.1 h10) rfl rfl rfl (Nat.le_of_ble_eq_true rfl) ?_
      refine v_istore_n E dX2_inTheGroups_18 (by decide) ?_
      refine v_iconst (v := nI 0) E dX2_inTheGroups_19 (by decide) ?_
      refine v_istore_n E dX2_inTheGroups_20 (by decide) ?_
      have loop : ∀ k, k ≤ a → z_V K 21 [(0, .ref 7), (1, .int (nI a)), (2, .int (nI (g_set (s_gc s) (s_nd s).length k))), (3, .int (nI k))] [] (z_s (s_nl s)) I' J' 0 0 := by
        refine z_for a ?_ (fun k hk ih => ?_)
        · refine v_iload_n E dX2_inTheGroups_21 rfl ?_
          refine v_iload_n E dX2_inTheGroups_22 rfl ?_
          refine v_icmp_geN (tgt := 42) E dX2_inTheGroups_23 (by decide) (by omega) (by omega) (fun c => ?_) (fun c => ?_)
          · refine v_aload_n E dX2_inTheGroups_42 rfl ?_
            refine v_iload_n E dX2_inTheGroups_43 rfl ?_
            refine v_callV1 E dX2_inTheGroups_44 k_X2_51 Y_X2_firstOfFewest (m_firstOfFewest (d + 3) (s_nl s) _ (s_gc s) I' J' h10 g1 _ (g_set_lt _ _ a) (g_set_pos _ h10 ha)) rfl rfl rfl (Nat.le_of_ble_eq_true rfl) ?_
            exact v_iret E X dX2_inTheGroups_47 ⟨by rw [e9, nI_clamp (by omega)]; rfl, rfl, g2, rfl⟩
          · exact absurd c (by omega)
        · refine v_iload_n E dX2_inTheGroups_21 rfl ?_
          refine v_iload_n E dX2_inTheGroups_22 rfl ?_
          refine v_icmp_geN (tgt := 42) E dX2_inTheGroups_23 (by decide) (by omega) (by omega) (fun c => ?_) (fun c => ?_)
          · exact absurd c (by omega)
          · refine v_iload_n E dX2_inTheGroups_26 rfl ?_
            refine v_aload_n E dX2_inTheGroups_27 rfl ?_
            refine v_iload_n E dX2_inTheGroups_28 rfl ?_
            refine v_callV1 E dX2_inTheGroups_29 k_X2_51 Y_X2_firstOfFewest (m_firstOfFewest (d + 3) (s_nl s) _ (s_gc s) I' J' h10 g1 _ (g_set_lt _ _ k) (g_set_pos _ h10 (Nat.lt_trans hk ha))) rfl rfl rfl (Nat.le_of_ble_eq_true rfl) ?_
            refine v_iconst (v := -1) E dX2_inTheGroups_32 (by decide) ?_
            refine v_ixor E dX2_inTheGroups_33 ?_
            refine v_iand E dX2_inTheGroups_34 ?_
            refine v_top (q_dif (g_set (s_gc s) (s_nd s).length k) (g_1st (s_gc s) (g_set (s_gc s) (s_nd s).length k))) ?_
            refine v_istore_n E dX2_inTheGroups_35 (by decide) ?_
            refine v_inc E dX2_inTheGroups_36 rfl (by decide) ?_
            refine v_goto (tgt := 21) E dX2_inTheGroups_39 (by decide) ?_
            exact ih
      exact loop 0 (by omega)
    · exact no (decide_eq_false (fun z => k2 z.2)) I' g2
noncomputable def r_above (s : zS) : Int32 := if (s_nd s).length ≤ 10 then nI (r_fewest s) else -5
noncomputable def r_group (s : zS) (x : Int32) : Int32 := if (s_nd s).length ≤ 10 then (if z_isx x (r_fewest s) then nI (r_groupN s x.toNatClampNeg) else -1) else -1
theorem m_above (d : Nat) (s : zS) (hw : s_wf s) (I : zI) (J : zJ) (hc : cI s I J) : z_C yX3_above cX3_above 1 (some .int) (d + 5) [.ref 1] (z_s (s_nl s)) I J 0 0 (cR s (r_above s) I J) := by
  have hlen := s_nd_len hw
  refine z_C.of (by decide) (Nat.le_of_ble_eq_true rfl) fun K E X => ?_
  refine v_aload_n E dX3_above_0 rfl ?_
  refine v_callV E dX3_above_1 k_X3_156 Y_X3_findNeeds (m_findNeeds (d + 1) s hw I J hc) rfl rfl rfl (Nat.le_of_ble_eq_true rfl) ?_
  rintro r h' I' J' ⟨rfl, rfl, g1, g2, rfl⟩
  refine v_aload_n E dX3_above_4 rfl ?_
  refine v_getR E f_X3_33 dX3_above_5 rfl rfl rfl ?_
  refine v_callV1 E dX3_above_8 k_X3_167 Y_X2_canBeSorted (m_canBeSorted (d + 4) (s_nl s) _ I' J' g1.1 hlen) rfl rfl rfl (Nat.le_of_ble_eq_true rfl) ?_
  refine v_if_eqB (tgt := 24) E dX3_above_11 (by decide)  (fun e => ?_) (fun e => ?_)
  · refine v_bipush (v := -5) E dX3_above_24 (by decide) ?_
    exact v_iret E X dX3_above_26 ⟨by unfold r_above; rw [if_neg (of_decide_eq_false e)], rfl, fn_cI hc g2, fn_mF g2⟩
  · have h10 := of_decide_eq_true e
    refine v_aload_n E dX3_above_14 rfl ?_
    refine v_getR E f_X3_33 dX3_above_15 rfl rfl rfl ?_
    refine v_callV E dX3_above_18 k_X3_177 Y_X2_fewestGroups (m_fewestGroups d s hw I' J' g1 h10) rfl rfl rfl (Nat.le_of_ble_eq_true rfl) ?_
    rintro r h' I2 J2 ⟨rfl, rfl, g3, g4, rfl⟩
    refine v_goto (tgt := 26) E dX3_above_21 (by decide) ?_
    exact v_iret E X dX3_above_26 ⟨by unfold r_above; rw [if_pos h10], rfl, fo_cI hc g2 g4, fo_mF g2 g4⟩
theorem m_group (d : Nat) (s : zS) (hw : s_wf s) (I : zI) (J : zJ) (hc : cI s I J) (x : Int32) : z_C yX3_group cX3_group 2 (some .int) (d + 6) [.ref 1, .int x] (z_s (s_nl s)) I J 0 0 (cR s (r_group s x) I J) := by
  have hlen := s_nd_len hw
  refine z_C.of (by decide) (Nat.le_of_ble_eq_true rfl) fun K E X => ?_
  refine v_aload_n E dX3_group_0 rfl ?_
  refine v_callV E dX3_group_1 k_X3_156 Y_X3_findNeeds (m_findNeeds (d + 2) s hw I J hc) rfl rfl rfl (Nat.le_of_ble_eq_true rfl) ?_
  rintro r h' I' J' ⟨rfl, rfl, g1, g2, rfl⟩
  refine v_aload_n E dX3_group_4 rfl ?_
  refine v_getR E f_X3_33 dX3_group_5 rfl rfl rfl ?_
  refine v_callV1 E dX3_group_8 k_X3_167 Y_X2_canBeSorted (m_canBeSorted (d + 5) (s_nl s) _ I' J' g1.1 hlen) rfl rfl rfl (Nat.le_of_ble_eq_true rfl) ?_
  refine v_if_eqB (tgt := 25) E dX3_group_11 (by decide)  (fun e => ?_) (fun e => ?_)
  · refine v_iconst (v := -1) E dX3_group_25 (by decide) ?_
    exact v_iret E X dX3_group_26 ⟨by unfold r_group; rw [if_neg (of_decide_eq_false e)], rfl, fn_cI hc g2, fn_mF g2⟩
  · have h10 := of_decide_eq_true e
    refine v_aload_n E dX3_group_14 rfl ?_
    refine v_getR E f_X3_33 dX3_group_15 rfl rfl rfl ?_
    refine v_iload_n E dX3_group_18 rfl ?_
    refine v_callV E dX3_group_19 k_X3_180 Y_X2_inTheGroups (m_inTheGroups d s hw I' J' g1 h10 x) rfl rfl rfl (Nat.le_of_ble_eq_true rfl) ?_
    rintro r h' I2 J2 ⟨rfl, rfl, g4, rfl⟩
    refine v_goto (tgt := 26) E dX3_group_22 (by decide) ?_
    exact v_iret E X dX3_group_26 ⟨by unfold r_group; rw [if_pos h10], rfl, fo_cI hc g2 g4, fo_mF g2 g4⟩
