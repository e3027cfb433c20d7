/-! THE MODEL: groups -/
theorem q_and_p2 (a c : Nat) : a &&& 2 ^ c = 0 ↔ a.testBit c = false := by
  constructor
  · intro h
    have h2 : (a &&& 2 ^ c).testBit c = false := by rw [h, Nat.zero_testBit]
    rw [Nat.testBit_and, Nat.testBit_two_pow] at h2
    simpa using h2
  · intro h
    apply Nat.eq_of_testBit_eq
    intro i
    rw [Nat.testBit_and, Nat.testBit_two_pow, Nat.zero_testBit]
    by_cases e : c = i
    · subst e; rw [h]; rfl
    · simp [e]
theorem s_gc_eq {s : zS} (hw : s_wf s) {i j : Nat} (hi : i < (s_nd s).length) (hj : j < (s_nd s).length) : s_gc s i j = (decide (n_q (s_nd s) i = n_q (s_nd s) j) || (decide (n_w (s_nd s) i ≠ n_w (s_nd s) j) && (s_out s (n_w (s_nd s) j) (n_q (s_nd s) i) && s_out s (n_w (s_nd s) i) (n_q (s_nd s) j)))) := by
  unfold s_gc
  rw [s_lk_bit hw _ (s_nd_at hi).2.1, s_lk_bit hw _ (s_nd_at hj).2.1, Bool.not_not, Bool.not_not]
theorem mm_goTogether (d nl : Nat) (s : zS) (hw : s_wf s) (I : zI) (J : zJ) (hN : mN s I) (i j : Nat) (hi : i < (s_nd s).length) (hj : j < (s_nd s).length) : z_C yX4_goTogether cX4_goTogether 3 (some .boolean) (d + 1) [.ref 17, .int (nI i), .int (nI j)] (z_s nl) I J 0 0 (z_q (some (.int (nI (s_gc s i j).toNat))) (z_s nl) I J) := by
  have h100 := s_nd_len hw
  have w1 := hw.1
  have w2 := hw.2.1
  have hg := s_gc_eq hw hi hj
  obtain ⟨a1, a2, a3⟩ := s_nd_at hi
  obtain ⟨b1, b2, b3⟩ := s_nd_at hj
  obtain ⟨i1, i2⟩ := hN.2.2 i hi
  obtain ⟨j1, j2⟩ := hN.2.2 j hj
  have hpi : 2 ^ n_q (s_nd s) i < 1024 := p2_10 w1 (Nat.pow_lt_pow_right (by decide) a2)
  have hpj : 2 ^ n_q (s_nd s) j < 1024 := p2_10 w1 (Nat.pow_lt_pow_right (by decide) b2)
  refine z_C.of (by decide) (Nat.le_of_ble_eq_true rfl) fun K E X => ?_
  have no : s_gc s i j = false → z_V K 76 [(0, .ref 17), (1, .int (nI i)), (2, .int (nI j))] [] (z_s nl) I J 0 0 := by
    intro e
    refine v_iconst (v := nI 0) E dX4_goTogether_76 (by decide) ?_
    exact v_zret E X dX4_goTogether_77 (by first | exact Or.inl rfl | exact Or.inr rfl) (z_qi (by rw [e]; rfl))
  have yes : s_gc s i j = true → z_V K 72 [(0, .ref 17), (1, .int (nI i)), (2, .int (nI j))] [] (z_s nl) I J 0 0 := by
    intro e
    refine v_iconst (v := nI 1) E dX4_goTogether_72 (by decide) ?_
    refine v_goto (tgt := 77) E dX4_goTogether_73 (by decide) ?_
    exact v_zret E X dX4_goTogether_77 (by first | exact Or.inl rfl | exact Or.inr rfl) (z_qi (by rw [e]; rfl))
  refine v_aload_n E dX4_goTogether_0 rfl ?_
  refine v_getR E f_X4_70 dX4_goTogether_1 rfl rfl rfl ?_
  refine v_iload_n E dX4_goTogether_4 rfl ?_
  refine v_ialoadE E dX4_goTogether_5 rfl rfl (by omega) (by decide) i2 ?_
  refine v_aload_n E dX4_goTogether_6 rfl ?_
  refine v_getR E f_X4_70 dX4_goTogether_7 rfl rfl rfl ?_
  refine v_iload_n E dX4_goTogether_10 rfl ?_
  refine v_ialoadE E dX4_goTogether_11 rfl rfl (by omega) (by decide) j2 ?_
  refine v_icmp_eqN (tgt := 72) E dX4_goTogether_12 (by decide) (by omega) (by omega) (fun c => ?_) (fun c => ?_)
  · exact yes (by rw [hg, decide_eq_true c]; rfl)
  · refine v_aload_n E dX4_goTogether_15 rfl ?_
    refine v_getR E f_X4_67 dX4_goTogether_16 rfl rfl rfl ?_
    refine v_iload_n E dX4_goTogether_19 rfl ?_
    refine v_ialoadE E dX4_goTogether_20 rfl rfl (by omega) (by decide) i1 ?_
    refine v_aload_n E dX4_goTogether_21 rfl ?_
    refine v_getR E f_X4_67 dX4_goTogether_22 rfl rfl rfl ?_
    refine v_iload_n E dX4_goTogether_25 rfl ?_
    refine v_ialoadE E dX4_goTogether_26 rfl rfl (by omega) (by decide) j1 ?_
    refine v_icmp_eqN (tgt := 76) E dX4_goTogether_27 (by decide) (by omega) (by omega) (fun c1 => ?_) (fun c1 => ?_)
    · exact no (by rw [hg, decide_eq_false c, decide_eq_false (fun z => z c1)]; rfl)
    · refine v_aload_n E dX4_goTogether_30 rfl ?_
      refine v_aload_n E dX4_goTogether_31 rfl ?_
      refine v_getR E f_X4_67 dX4_goTogether_32 rfl rfl rfl ?_
      refine v_iload_n E dX4_goTogether_35 rfl ?_
      refine v_ialoadE E dX4_goTogether_36 rfl rfl (by omega) (by decide) j1 ?_
      refine v_iconst (v := nI 1) E dX4_goTogether_37 (by decide) ?_
      refine v_aload_n E dX4_goTogether_38 rfl ?_
      refine v_getR E f_X4_70 dX4_goTogether_39 rfl rfl rfl ?_
      refine v_iload_n E dX4_goTogether_42 rfl ?_
      refine v_ialoadE E dX4_goTogether_43 rfl rfl (by omega) (by decide) i2 ?_
      refine v_ishlN E dX4_goTogether_44 (by omega) ?_
      refine v_p2 ?_
      refine v_callV1 E dX4_goTogether_45 k_X4_124 Y_X4_isOut (mm_isOut d nl I J (n_w (s_nd s) j) (by omega) (hN.1 _ b1) (2 ^ n_q (s_nd s) i) hpi) rfl rfl rfl (Nat.le_of_ble_eq_true rfl) ?_
      change z_V K _ _ (.int (nI (s_out s (n_w (s_nd s) j) (n_q (s_nd s) i)).toNat) :: _) _ _ _ _ _
      refine v_if_eqB (tgt := 76) E dX4_goTogether_48 (by decide)  (fun c2 => ?_) (fun c2 => ?_)
      · exact no (by rw [hg, decide_eq_false c, c2, Bool.false_and, Bool.and_false]; rfl)
      · refine v_aload_n E dX4_goTogether_51 rfl ?_
        refine v_aload_n E dX4_goTogether_52 rfl ?_
        refine v_getR E f_X4_67 dX4_goTogether_53 rfl rfl rfl ?_
        refine v_iload_n E dX4_goTogether_56 rfl ?_
        refine v_ialoadE E dX4_goTogether_57 rfl rfl (by omega) (by decide) i1 ?_
        refine v_iconst (v := nI 1) E dX4_goTogether_58 (by decide) ?_
        refine v_aload_n E dX4_goTogether_59 rfl ?_
        refine v_getR E f_X4_70 dX4_goTogether_60 rfl rfl rfl ?_
        refine v_iload_n E dX4_goTogether_63 rfl ?_
        refine v_ialoadE E dX4_goTogether_64 rfl rfl (by omega) (by decide) j2 ?_
        refine v_ishlN E dX4_goTogether_65 (by omega) ?_
        refine v_p2 ?_
        refine v_callV1 E dX4_goTogether_66 k_X4_124 Y_X4_isOut (mm_isOut d nl I J (n_w (s_nd s) i) (by omega) (hN.1 _ a1) (2 ^ n_q (s_nd s) j) hpj) rfl rfl rfl (Nat.le_of_ble_eq_true rfl) ?_
        change z_V K _ _ (.int (nI (s_out s (n_w (s_nd s) i) (n_q (s_nd s) j)).toNat) :: _) _ _ _ _ _
        refine v_if_eqB (tgt := 76) E dX4_goTogether_69 (by decide)  (fun c3 => ?_) (fun c3 => ?_)
        · exact no (by rw [hg, decide_eq_false c, c3, Bool.and_false, Bool.and_false]; rfl)
        · exact yes (by rw [hg, c2, c3, decide_eq_true c1, Bool.and_self, Bool.and_self, Bool.or_true])
/-- the model's tables of groups -/
def mgI (s : zS) (n : Nat) (I : zI) : Prop := (∀ j, j < n → I 33 j = nI (g_T (s_gc s) j)) ∧ ∀ j, j < n → I 34 j = nI (decide (0 < j) && g_G (s_gc s) j).toNat
theorem mm_groups (d nl : Nat) (s : zS) (hw : s_wf s) (I : zI) (J : zJ) (hN : mN s I) (h10 : (s_nd s).length ≤ 10) : z_C yX4_groups cX4_groups 4 none (d + 2) [.ref 17] (z_s nl) I J 0 0 (fun r h' I' J' => r = none ∧ h' = z_s nl ∧ mgI s (2 ^ (s_nd s).length) I' ∧ fB I I' ∧ J' = J) := by
  have hn2 := p2n h10
  refine z_C.of (by decide) (Nat.le_of_ble_eq_true rfl) fun K E X => ?_
  refine v_iconst (v := nI 0) E dX4_groups_0 (by decide) ?_
  refine v_istore_n E dX4_groups_1 (by decide) ?_
  have loop : ∀ k, k ≤ 2 ^ (s_nd s).length → ∀ I', mgI s k I' → fB I I' → ∀ lr, z_V K 2 ([(0, .ref 17), (1, .int (nI k))] ++ lr) [] (z_s nl) I' J 0 0 := by
    refine z_for _ ?_ (fun k hk ih => ?_)
    · intro I' h1 h2 lr
      refine v_ls (ls2 := [(0, .ref 17), (1, .int (nI (2 ^ (s_nd s).length)))]) (by intro q hq; simp only [List.mem_cons, List.not_mem_nil, or_false] at hq; rcases hq with rfl | rfl <;> rfl) ?_
      refine v_iload_n E dX4_groups_2 rfl ?_
      refine v_iconst (v := nI 1) E dX4_groups_3 (by decide) ?_
      refine v_aload_n E dX4_groups_4 rfl ?_
      refine v_getIE E f_X4_73 dX4_groups_5 rfl rfl (h2.mN hN).2.1 ?_
      refine v_ishlN E dX4_groups_8 (by omega) ?_
      refine v_p2 ?_
      refine v_icmp_geN (tgt := 186) E dX4_groups_9 (by decide) (by omega) (by omega) (fun c => ?_) (fun c => ?_)
      · exact v_vret E X dX4_groups_186 ⟨rfl, rfl, h1, h2, rfl⟩
      · exact absurd c (by omega)
    · intro I' h1 h2 lr
      refine v_ls (ls2 := [(0, .ref 17), (1, .int (nI k))]) (by intro q hq; simp only [List.mem_cons, List.not_mem_nil, or_false] at hq; rcases hq with rfl | rfl <;> rfl) ?_
      have hk1 : k < 1024 := by omega
      -- the best of the set
      have t4 : ∀ g, q_df g k = 0 → ∀ v I2, mgI s k I2 → I2 34 k = nI (decide (0 < k) && g_G (s_gc s) k).toNat → I2 33 k = nI v → v ≤ 100 → (0 < k → (∀ g', g_ok (s_gc s) k g' = true → g < g' → v ≤ 1 + g_T (s_gc s) (q_df k g')) ∧ (v = 100 ∨ ∃ g', g_ok (s_gc s) k g' = true ∧ v = 1 + g_T (s_gc s) (q_df k g'))) → (k = 0 → v = 0) → fB I I2 → z_V K 113 [(0, .ref 17), (1, .int (nI k)), (2, .int (nI (q_low k))), (3, .int (nI g))] [] (z_s nl) I2 J 0 0 := by
        intro g
        induction g using Nat.strongRecOn with
        | _ g ihg =>
          intro hgs v I2 q1 q2 q3 q4 q5 q6 q7
          have hgk := g_sub_le hgs
          refine v_iload_n E dX4_groups_113 rfl ?_
          refine v_if_leN (tgt := 180) E dX4_groups_114 (by decide) (by omega) (fun c2 => ?_) (fun c2 => ?_)
          · refine v_inc E dX4_groups_180 rfl (by decide) ?_
            refine v_goto (tgt := 2) E dX4_groups_183 (by decide) ?_
            refine ih I2 ⟨fun j hj => ?_, fun j hj => ?_⟩ q7 [(2, .int (nI (q_low k))), (3, .int (nI g))]
            · by_cases e : j = k
              · subst e
                rw [q3]
                rcases Nat.eq_zero_or_pos j with h0 | h0
                · rw [q6 h0, h0, g_T_0]
                · obtain ⟨a1, a2⟩ := q5 h0
                  rw [g_T_uniq hk1 h0 (fun g' hg' => a1 g' hg' (by
                    have := (g_ok_iff.mp hg').2.1
                    rcases Nat.eq_zero_or_pos g' with z | z
                    · rw [z, Nat.zero_testBit] at this; cases this
                    · omega)) (a2.elim (fun z => Or.inl (by omega)) Or.inr)]
              · exact q1.1 j (by omega)
            · by_cases e : j = k
              · subst e; exact q2
              · exact q1.2 j (by omega)
          · have h0 : 0 < k := by omega
            obtain ⟨a1, a2⟩ := q5 h0
            obtain ⟨l1, l2, l3, l4, l5, l6, l7⟩ := g_low_ok k hk1 h0
            -- to the next one
            have next : ∀ v2 I3, mgI s k I3 → I3 34 k = nI (decide (0 < k) && g_G (s_gc s) k).toNat → I3 33 k = nI v2 → v2 ≤ 100 → v2 ≤ v → (g_ok (s_gc s) k g = true → v2 ≤ 1 + g_T (s_gc s) (q_df k g)) → (v2 = 100 ∨ ∃ g', g_ok (s_gc s) k g' = true ∧ v2 = 1 + g_T (s_gc s) (q_df k g')) → fB I I3 → z_V K 171 [(0, .ref 17), (1, .int (nI k)), (2, .int (nI (q_low k))), (3, .int (nI g))] [] (z_s nl) I3 J 0 0 := by
              intro v2 I3 p1 p2 p3 p4 p5 p6 p7 p8
              have hlt : (g - 1) &&& k < g := by
                have : (g - 1) &&& k ≤ g - 1 := Nat.and_le_left
                omega
              have hsub : q_df ((g - 1) &&& k) k = 0 := g_sub.mpr fun i hi => by
                rw [Nat.testBit_and, Bool.and_eq_true] at hi
                exact hi.2
              refine v_iload_n E dX4_groups_171 rfl ?_
              refine v_iconst (v := nI 1) E dX4_groups_172 (by decide) ?_
              refine v_isubN E dX4_groups_173 (by omega) ?_
              refine v_iload_n E dX4_groups_174 rfl ?_
              refine v_iandN E dX4_groups_175 ?_
              refine v_istore_n E dX4_groups_176 (by decide) ?_
              refine v_goto (tgt := 113) E dX4_groups_177 (by decide) ?_
              refine ihg _ hlt hsub v2 I3 p1 p2 p3 p4 (fun _ => ⟨fun g' hg' hlt' => ?_, p7⟩) (fun z => absurd z (by omega)) p8
              rcases Nat.lt_trichotomy g' g with z | z | z
              · have := g_prev g g' k (g_ok_iff.mp hg').1 hgs z
                omega
              · subst z; exact p6 hg'
              · have := a1 g' hg' z
                omega
            have skip : g_ok (s_gc s) k g = false → z_V K 171 [(0, .ref 17), (1, .int (nI k)), (2, .int (nI (q_low k))), (3, .int (nI g))] [] (z_s nl) I2 J 0 0 := fun hno => next v I2 q1 q2 q3 q4 (Nat.le_refl _) (fun z => by rw [hno] at z; cases z) a2 q7
            refine v_iload_n E dX4_groups_117 rfl ?_
            refine v_iload_n E dX4_groups_118 rfl ?_
            refine v_iandN E dX4_groups_119 ?_
            refine v_if_eqN (tgt := 171) E dX4_groups_120 (by decide) (Nat.lt_of_le_of_lt Nat.and_le_left (by omega)) (fun c3 => ?_) (fun c3 => ?_)
            · rw [l1] at c3
              refine skip ?_
              unfold g_ok
              rw [(q_and_p2 _ _).mp c3, Bool.false_and, Bool.and_false]
            · have hbit : g.testBit (q_ctz k) = true := by
                cases hb : g.testBit (q_ctz k) with
                | true => rfl
                | false =>
                  have := (q_and_p2 g (q_ctz k)).mpr hb
                  rw [← l1] at this
                  omega
              have hG : I2 34 g = nI (decide (0 < g) && g_G (s_gc s) g).toNat := by
                by_cases e : g = k
                · subst e; exact q2
                · exact q1.2 g (by omega)
              refine v_aload_n E dX4_groups_123 rfl ?_
              refine v_getR E f_X4_79 dX4_groups_124 rfl rfl rfl ?_
              refine v_iload_n E dX4_groups_127 rfl ?_
              refine v_baloadE E dX4_groups_128 rfl rfl (by omega) (by decide) hG ?_
              rw [decide_eq_true c2, Bool.true_and]
              refine v_if_eqB (tgt := 171) E dX4_groups_129 (by decide)  (fun c4 => ?_) (fun c4 => ?_)
              · refine skip ?_
                unfold g_ok
                rw [c4, Bool.and_false, Bool.and_false]
              · have hok : g_ok (s_gc s) k g = true := g_ok_iff.mpr ⟨hgs, hbit, c4⟩
                have hdl := g_ok_lt hk1 h0 hok
                have hT10 := g_T_10 (s_gc s) (set := q_df k g) (by omega)
                refine v_iconst (v := nI 1) E dX4_groups_132 (by decide) ?_
                refine v_aload_n E dX4_groups_133 rfl ?_
                refine v_getR E f_X4_76 dX4_groups_134 rfl rfl rfl ?_
                refine v_iload_n E dX4_groups_137 rfl ?_
                refine v_iload_n E dX4_groups_138 rfl ?_
                refine v_iconst (v := -1) E dX4_groups_139 (by decide) ?_
                refine v_ixor E dX4_groups_140 ?_
                refine v_iand E dX4_groups_141 ?_
                refine v_ialoadE E dX4_groups_142 rfl (q_dif _ _) (by omega) (by decide) (q1.1 _ hdl) ?_
                refine v_iaddN E dX4_groups_143 ?_
                refine v_aload_n E dX4_groups_144 rfl ?_
                refine v_getR E f_X4_76 dX4_groups_145 rfl rfl rfl ?_
                refine v_iload_n E dX4_groups_148 rfl ?_
                refine v_ialoadE E dX4_groups_149 rfl rfl (by omega) (by decide) q3 ?_
                refine v_icmp_geN (tgt := 171) E dX4_groups_150 (by decide) (by omega) (by omega) (fun c5 => ?_) (fun c5 => ?_)
                · exact next v I2 q1 q2 q3 q4 (Nat.le_refl _) (fun _ => c5) a2 q7
                · refine v_aload_n E dX4_groups_153 rfl ?_
                  refine v_getR E f_X4_76 dX4_groups_154 rfl rfl rfl ?_
                  refine v_iload_n E dX4_groups_157 rfl ?_
                  refine v_iconst (v := nI 1) E dX4_groups_158 (by decide) ?_
                  refine v_aload_n E dX4_groups_159 rfl ?_
                  refine v_getR E f_X4_76 dX4_groups_160 rfl rfl rfl ?_
                  refine v_iload_n E dX4_groups_163 rfl ?_
                  refine v_iload_n E dX4_groups_164 rfl ?_
                  refine v_iconst (v := -1) E dX4_groups_165 (by decide) ?_
                  refine v_ixor E dX4_groups_166 ?_
                  refine v_iand E dX4_groups_167 ?_
                  refine v_ialoadE E dX4_groups_168 rfl (q_dif _ _) (by omega) (by decide) (q1.1 _ hdl) ?_
                  refine v_iaddN E dX4_groups_169 ?_
                  refine v_iastore E dX4_groups_170 rfl rfl (by omega) (by decide) ?_
                  refine next (1 + g_T (s_gc s) (q_df k g)) _ ⟨fun j hj => ?_, fun j hj => ?_⟩ ?_ z_u_same (by omega) (by omega) (fun _ => Nat.le_refl _) (Or.inr ⟨g, hok, rfl⟩) (fun q z1 z2 => ?_)
                  · rw [z_u_col (by omega)]; exact q1.1 j hj
                  · rw [z_u_row (by decide)]; exact q1.2 j hj
                  · rw [z_u_row (by decide)]; exact q2
                  · rw [z_u_row z1]; exact q7 q z1 z2
      -- whether the set is a group
      have t3 : ∀ I2, mgI s k I2 → I2 34 k = nI (decide (0 < k) && g_G (s_gc s) k).toNat → fB I I2 → ∀ lr, z_V K 90 ([(0, .ref 17), (1, .int (nI k))] ++ lr) [] (z_s nl) I2 J 0 0 := by
        intro I2 q1 q2 q7 lr
        refine v_ls (ls2 := [(0, .ref 17), (1, .int (nI k))]) (by intro q hq; simp only [List.mem_cons, List.not_mem_nil, or_false] at hq; rcases hq with rfl | rfl <;> rfl) ?_
        have fin : ∀ v, v ≤ 100 → (0 < k → v = 100) → (k = 0 → v = 0) → z_V K 105 [(0, .ref 17), (1, .int (nI k))] [.int (nI v), .int (nI k), .ref 33] (z_s nl) I2 J 0 0 := by
          intro v v1 v2 v3
          refine v_iastore E dX4_groups_105 rfl rfl (by omega) (by decide) ?_
          refine v_iload_n E dX4_groups_106 rfl ?_
          refine v_iload_n E dX4_groups_107 rfl ?_
          refine v_ineg E dX4_groups_108 ?_
          refine v_iand E dX4_groups_109 ?_
          refine v_top (q_low_ok k hk1) ?_
          refine v_istore_n E dX4_groups_110 (by decide) ?_
          refine v_iload_n E dX4_groups_111 rfl ?_
          refine v_istore_n E dX4_groups_112 (by decide) ?_
          refine t4 k (g_df_00 k) v _ ⟨fun j hj => ?_, fun j hj => ?_⟩ ?_ z_u_same v1 (fun h0 => ⟨fun g' hg' hlt => ?_, Or.inl (v2 h0)⟩) v3 (fun q z1 z2 => ?_)
          · rw [z_u_col (by omega)]; exact q1.1 j hj
          · rw [z_u_row (by decide)]; exact q1.2 j hj
          · rw [z_u_row (by decide)]; exact q2
          · have := g_sub_le (g_ok_iff.mp hg').1
            omega
          · rw [z_u_row z1]; exact q7 q z1 z2
        refine v_aload_n E dX4_groups_90 rfl ?_
        refine v_getR E f_X4_76 dX4_groups_91 rfl rfl rfl ?_
        refine v_iload_n E dX4_groups_94 rfl ?_
        refine v_iload_n E dX4_groups_95 rfl ?_
        refine v_if_neN (tgt := 103) E dX4_groups_96 (by decide) (by omega) (fun c2 => ?_) (fun c2 => ?_)
        · refine v_bipush (v := nI 100) E dX4_groups_103 (by decide) ?_
          exact fin 100 (by omega) (fun _ => rfl) (fun z => absurd z (by omega))
        · refine v_iconst (v := nI 0) E dX4_groups_99 (by decide) ?_
          refine v_goto (tgt := 105) E dX4_groups_100 (by decide) ?_
          exact fin 0 (by omega) (fun z => absurd c2 (by omega)) (fun _ => rfl)
      have t1 : ∀ i, i ≤ (s_nd s).length → ∀ I2 (b : Bool), mgI s k I2 → I2 34 k = nI b.toNat → (b = true ↔ 0 < k ∧ ∀ a, a < i → ∀ e, e < a → k.testBit a = true → k.testBit e = true → s_gc s a e = true) → fB I I2 → ∀ lr, z_V K 29 ([(0, .ref 17), (1, .int (nI k)), (2, .int (nI i))] ++ lr) [] (z_s nl) I2 J 0 0 := by
        refine z_for _ ?_ (fun i hi ih2 => ?_)
        · intro I2 b q1 q2 q3 q7 lr
          refine v_ls (ls2 := [(0, .ref 17), (1, .int (nI k)), (2, .int (nI (s_nd s).length))]) (by intro q hq; simp only [List.mem_cons, List.not_mem_nil, or_false] at hq; rcases hq with rfl | rfl | rfl <;> rfl) ?_
          refine v_iload_n E dX4_groups_29 rfl ?_
          refine v_aload_n E dX4_groups_30 rfl ?_
          refine v_getIE E f_X4_73 dX4_groups_31 rfl rfl (q7.mN hN).2.1 ?_
          refine v_icmp_geN (tgt := 90) E dX4_groups_34 (by decide) (by omega) (by omega) (fun c2 => ?_) (fun c2 => ?_)
          · refine t3 I2 q1 ?_ q7 [(2, .int (nI (s_nd s).length))]
            rw [q2]
            have : b = (decide (0 < k) && g_G (s_gc s) k) := by
              rw [Bool.eq_iff_iff, q3, Bool.and_eq_true, decide_eq_true_iff, g_G_iff]
              constructor
              · rintro ⟨z1, z2⟩
                refine ⟨z1, fun a ha e he b1 b2 => z2 a ?_ e he b1 b2⟩
                rcases Nat.lt_or_ge a (s_nd s).length with q | q
                · exact q
                · rw [q_hi hk q] at b1; cases b1
              · rintro ⟨z1, z2⟩
                exact ⟨z1, fun a ha e he b1 b2 => z2 a (by omega) e he b1 b2⟩
            rw [this]
          · exact absurd c2 (by omega)
        · intro I2 b q1 q2 q3 q7 lr
          refine v_ls (ls2 := [(0, .ref 17), (1, .int (nI k)), (2, .int (nI i))]) (by intro q hq; simp only [List.mem_cons, List.not_mem_nil, or_false] at hq; rcases hq with rfl | rfl | rfl <;> rfl) ?_
          refine v_iload_n E dX4_groups_29 rfl ?_
          refine v_aload_n E dX4_groups_30 rfl ?_
          refine v_getIE E f_X4_73 dX4_groups_31 rfl rfl (q7.mN hN).2.1 ?_
          refine v_icmp_geN (tgt := 90) E dX4_groups_34 (by decide) (by omega) (by omega) (fun c2 => ?_) (fun c2 => ?_)
          · exact absurd c2 (by omega)
          · refine v_iconst (v := nI 0) E dX4_groups_37 (by decide) ?_
            refine v_istore_n E dX4_groups_38 (by decide) ?_
            have t2 : ∀ j, j ≤ i → ∀ I3 (b3 : Bool), mgI s k I3 → I3 34 k = nI b3.toNat → (b3 = true ↔ (0 < k ∧ ∀ a, a < i → ∀ e, e < a → k.testBit a = true → k.testBit e = true → s_gc s a e = true) ∧ ∀ e, e < j → k.testBit i = true → k.testBit e = true → s_gc s i e = true) → fB I I3 → z_V K 39 [(0, .ref 17), (1, .int (nI k)), (2, .int (nI i)), (3, .int (nI j))] [] (z_s nl) I3 J 0 0 := by
              refine z_for _ ?_ (fun j hj ih3 => ?_)
              · intro I3 b3 p1 p2 p3 p7
                refine v_iload_n E dX4_groups_39 rfl ?_
                refine v_iload_n E dX4_groups_40 rfl ?_
                refine v_icmp_geN (tgt := 84) E dX4_groups_41 (by decide) (by omega) (by omega) (fun c3 => ?_) (fun c3 => ?_)
                · refine v_inc E dX4_groups_84 rfl (by decide) ?_
                  refine v_goto (tgt := 29) E dX4_groups_87 (by decide) ?_
                  refine ih2 I3 b3 p1 p2 ?_ p7 [(3, .int (nI i))]
                  rw [p3]
                  constructor
                  · rintro ⟨⟨z1, z2⟩, z3⟩
                    refine ⟨z1, fun a ha e he b1 b2 => ?_⟩
                    by_cases ea : a = i
                    · subst ea; exact z3 e he b1 b2
                    · exact z2 a (by omega) e he b1 b2
                  · rintro ⟨z1, z2⟩
                    exact ⟨⟨z1, fun a ha e he b1 b2 => z2 a (by omega) e he b1 b2⟩, fun e he b1 b2 => z2 i (by omega) e he b1 b2⟩
                · exact absurd c3 (by omega)
              · intro I3 b3 p1 p2 p3 p7
                have skip : (k.testBit i = true → k.testBit j = true → s_gc s i j = true) → z_V K 78 [(0, .ref 17), (1, .int (nI k)), (2, .int (nI i)), (3, .int (nI j))] [] (z_s nl) I3 J 0 0 := by
                  intro hs
                  refine v_inc E dX4_groups_78 rfl (by decide) ?_
                  refine v_goto (tgt := 39) E dX4_groups_81 (by decide) ?_
                  refine ih3 I3 b3 p1 p2 ?_ p7
                  rw [p3]
                  constructor
                  · rintro ⟨z1, z3⟩
                    refine ⟨z1, fun e he b1 b2 => ?_⟩
                    by_cases ea : e = j
                    · subst ea; exact hs b1 b2
                    · exact z3 e (by omega) b1 b2
                  · rintro ⟨z1, z3⟩
                    exact ⟨z1, fun e he b1 b2 => z3 e (by omega) b1 b2⟩
                refine v_iload_n E dX4_groups_39 rfl ?_
                refine v_iload_n E dX4_groups_40 rfl ?_
                refine v_icmp_geN (tgt := 84) E dX4_groups_41 (by decide) (by omega) (by omega) (fun c3 => ?_) (fun c3 => ?_)
                · exact absurd c3 (by omega)
                · refine v_iload_n E dX4_groups_44 rfl ?_
                  refine v_iload_n E dX4_groups_45 rfl ?_
                  refine v_ishrN E dX4_groups_46 (by omega) (by omega) ?_
                  refine v_iconst (v := nI 1) E dX4_groups_47 (by decide) ?_
                  refine v_iandN E dX4_groups_48 ?_
                  refine v_tb ?_
                  refine v_iconst (v := nI 1) E dX4_groups_49 (by decide) ?_
                  refine v_icmp_neB (tgt := 78) E dX4_groups_50 (by decide)  (fun c4 => ?_) (fun c4 => ?_)
                  · exact skip (fun z => by rw [c4] at z; cases z)
                  · refine v_iload_n E dX4_groups_53 rfl ?_
                    refine v_iload_n E dX4_groups_54 rfl ?_
                    refine v_ishrN E dX4_groups_55 (by omega) (by omega) ?_
                    refine v_iconst (v := nI 1) E dX4_groups_56 (by decide) ?_
                    refine v_iandN E dX4_groups_57 ?_
                    refine v_tb ?_
                    refine v_iconst (v := nI 1) E dX4_groups_58 (by decide) ?_
                    refine v_icmp_neB (tgt := 78) E dX4_groups_59 (by decide)  (fun c5 => ?_) (fun c5 => ?_)
                    · exact skip (fun _ z => by rw [c5] at z; cases z)
                    · refine v_aload_n E dX4_groups_62 rfl ?_
                      refine v_iload_n E dX4_groups_63 rfl ?_
                      refine v_iload_n E dX4_groups_64 rfl ?_
                      refine v_callV1 E dX4_groups_65 k_X4_161 Y_X4_goTogether (mm_goTogether d nl s hw I3 J (p7.mN hN) i j hi (by omega)) rfl rfl rfl (Nat.le_of_ble_eq_true rfl) ?_
                      refine v_if_neB (tgt := 78) E dX4_groups_68 (by decide)  (fun c6 => ?_) (fun c6 => ?_)
                      · exact skip (fun _ _ => c6)
                      · refine v_aload_n E dX4_groups_71 rfl ?_
                        refine v_getR E f_X4_79 dX4_groups_72 rfl rfl rfl ?_
                        refine v_iload_n E dX4_groups_75 rfl ?_
                        refine v_iconst (v := nI 0) E dX4_groups_76 (by decide) ?_
                        refine v_bastore E dX4_groups_77 rfl rfl (by omega) (by decide) (Or.inl rfl) ?_
                        refine v_inc E dX4_groups_78 rfl (by decide) ?_
                        refine v_goto (tgt := 39) E dX4_groups_81 (by decide) ?_
                        refine ih3 _ false ⟨fun a ha => ?_, fun a ha => ?_⟩ z_u_same ?_ (fun q z1 z2 => ?_)
                        · rw [z_u_row (by decide)]; exact p1.1 a ha
                        · rw [z_u_col (by omega)]; exact p1.2 a ha
                        · constructor
                          · intro z; cases z
                          · rintro ⟨z1, z3⟩
                            have := z3 j (by omega) c4 c5
                            rw [c6] at this
                            exact this
                        · rw [z_u_row z2]; exact p7 q z1 z2
            refine t2 0 (by omega) I2 b q1 q2 ?_ q7
            rw [q3]
            exact ⟨fun z => ⟨z, fun e he => absurd he (Nat.not_lt_zero e)⟩, fun z => z.1⟩
      have t0 : ∀ b : Bool, (b = true ↔ 0 < k) → z_V K 26 [(0, .ref 17), (1, .int (nI k))] [.int (nI b.toNat), .int (nI k), .ref 34] (z_s nl) I' J 0 0 := by
        intro b hb
        refine v_bastore E dX4_groups_26 rfl rfl (by omega) (by decide) (q_b01 b) ?_
        refine v_iconst (v := nI 0) E dX4_groups_27 (by decide) ?_
        refine v_istore_n E dX4_groups_28 (by decide) ?_
        refine t1 0 (by omega) _ b ⟨fun a ha => ?_, fun a ha => ?_⟩ z_u_same ?_ (fun q z1 z2 => ?_) []
        · rw [z_u_row (by decide)]; exact h1.1 a ha
        · rw [z_u_col (by omega)]; exact h1.2 a ha
        · rw [hb]
          exact ⟨fun z => ⟨z, fun a ha => absurd ha (Nat.not_lt_zero a)⟩, fun z => z.1⟩
        · rw [z_u_row z2]; exact h2 q z1 z2
      refine v_iload_n E dX4_groups_2 rfl ?_
      refine v_iconst (v := nI 1) E dX4_groups_3 (by decide) ?_
      refine v_aload_n E dX4_groups_4 rfl ?_
      refine v_getIE E f_X4_73 dX4_groups_5 rfl rfl (h2.mN hN).2.1 ?_
      refine v_ishlN E dX4_groups_8 (by omega) ?_
      refine v_p2 ?_
      refine v_icmp_geN (tgt := 186) E dX4_groups_9 (by decide) (by omega) (by omega) (fun c => ?_) (fun c => ?_)
      · exact absurd c (by omega)
      · refine v_aload_n E dX4_groups_12 rfl ?_
        refine v_getR E f_X4_79 dX4_groups_13 rfl rfl rfl ?_
        refine v_iload_n E dX4_groups_16 rfl ?_
        refine v_iload_n E dX4_groups_17 rfl ?_
        refine v_if_leN (tgt := 25) E dX4_groups_18 (by decide) (by omega) (fun c2 => ?_) (fun c2 => ?_)
        · refine v_iconst (v := nI 0) E dX4_groups_25 (by decide) ?_
          exact t0 false ⟨fun z => absurd z Bool.false_ne_true, fun z => by omega⟩
        · refine v_iconst (v := nI 1) E dX4_groups_21 (by decide) ?_
          refine v_goto (tgt := 26) E dX4_groups_22 (by decide) ?_
          exact t0 true ⟨fun _ => c2, fun _ => rfl⟩
  exact loop 0 (Nat.zero_le _) I ⟨fun j hj => absurd hj (Nat.not_lt_zero j), fun j hj => absurd hj (Nat.not_lt_zero j)⟩ (fun q _ _ => rfl) []
theorem mm_above (d nl : Nat) (s : zS) (hw : s_wf s) (I : zI) (J : zJ) (hm : mI s I J) : z_C yX4_above cX4_above 1 (some .int) (d + 4) [.ref 17] (z_s nl) I J 0 0 (mR (.int (r_above s)) nl I J) := by
  have h100 := s_nd_len hw
  refine z_C.of (by decide) (Nat.le_of_ble_eq_true rfl) fun K E X => ?_
  refine v_aload_n E dX4_above_0 rfl ?_
  refine v_callV E dX4_above_1 k_X4_148 Y_X4_findNeeds (mm_findNeeds d nl s hw I J hm) rfl rfl rfl (Nat.le_of_ble_eq_true rfl) ?_
  rintro r h' I1 J1 ⟨rfl, rfl, g1, g2, hS, rfl⟩
  refine v_aload_n E dX4_above_4 rfl ?_
  refine v_getIE E f_X4_73 dX4_above_5 rfl rfl g2.1 ?_
  refine v_bipush (v := nI 10) E dX4_above_8 (by decide) ?_
  refine v_icmp_leN (tgt := 16) E dX4_above_10 (by decide) (by omega) (by omega) (fun c => ?_) (fun c => ?_)
  · have hn2 := p2n c
    have hp0 := Nat.two_pow_pos (s_nd s).length
    refine v_aload_n E dX4_above_16 rfl ?_
    refine v_callV E dX4_above_17 k_X4_164 Y_X4_groups (mm_groups (d + 1) nl s hw I1 J1 ⟨g1, g2⟩ c) rfl rfl rfl (Nat.le_of_ble_eq_true rfl) ?_
    rintro r h' I2 J2 ⟨rfl, rfl, k1, k2, rfl⟩
    refine v_aload_n E dX4_above_20 rfl ?_
    refine v_getR E f_X4_76 dX4_above_21 rfl rfl rfl ?_
    refine v_iconst (v := nI 1) E dX4_above_24 (by decide) ?_
    refine v_aload_n E dX4_above_25 rfl ?_
    refine v_getIE E f_X4_73 dX4_above_26 rfl rfl (k2.mN ⟨g1, g2⟩).2.1 ?_
    refine v_ishlN E dX4_above_29 (by omega) ?_
    refine v_p2 ?_
    refine v_iconst (v := nI 1) E dX4_above_30 (by decide) ?_
    refine v_isubN E dX4_above_31 (by omega) ?_
    refine v_ialoadE E dX4_above_32 rfl rfl (by omega) (by decide) (k1.1 _ (by omega)) ?_
    exact v_iret E X dX4_above_33 (mR.e (by unfold r_above; rw [if_pos c]; rfl) (hS.tr k2.mS))
  · refine v_bipush (v := -5) E dX4_above_13 (by decide) ?_
    exact v_iret E X dX4_above_15 (mR.e (by unfold r_above; rw [if_neg (by omega)]) hS)
theorem q_low3 {g set : Nat} (hs : set < 1024) : nI (g &&& set) &&& -(nI set) = nI (g &&& q_low set) := by
  rw [← q_and, Int32.and_assoc, q_low_ok set hs, q_and]
theorem mm_group (d nl : Nat) (s : zS) (hw : s_wf s) (I : zI) (J : zJ) (hm : mI s I J) (x : Int32) : z_C yX4_group cX4_group 5 (some .int) (d + 4) [.ref 17, .int x] (z_s nl) I J 0 0 (mR (.int (r_group s x)) nl I J) := by
  have h100 := s_nd_len hw
  refine z_C.of (by decide) (Nat.le_of_ble_eq_true rfl) fun K E X => ?_
  refine v_aload_n E dX4_group_0 rfl ?_
  refine v_callV E dX4_group_1 k_X4_148 Y_X4_findNeeds (mm_findNeeds d nl s hw I J hm) rfl rfl rfl (Nat.le_of_ble_eq_true rfl) ?_
  rintro r h' I1 J1 ⟨rfl, rfl, g1, g2, hS, rfl⟩
  have no : r_group s x = -1 → z_V K 17 [(0, .ref 17), (1, .int x)] [] (z_s nl) I1 J1 0 0 := by
    intro e
    refine v_iconst (v := -1) E dX4_group_17 (by decide) ?_
    exact v_iret E X dX4_group_18 (mR.e e.symm hS)
  refine v_aload_n E dX4_group_4 rfl ?_
  refine v_getIE E f_X4_73 dX4_group_5 rfl rfl g2.1 ?_
  refine v_bipush (v := nI 10) E dX4_group_8 (by decide) ?_
  refine v_icmp_gtN (tgt := 17) E dX4_group_10 (by decide) (by omega) (by omega) (fun c => ?_) (fun c => ?_)
  · exact no (by unfold r_group; rw [if_neg (by omega)])
  · have hn2 := p2n c
    have hp0 := Nat.two_pow_pos (s_nd s).length
    have hr : r_group s x = if z_isx x (r_fewest s) then nI (r_groupN s x.toNatClampNeg) else -1 := by unfold r_group; rw [if_pos c]
    refine v_iload_n E dX4_group_13 rfl ?_
    refine v_if_ge (tgt := 19) E dX4_group_14 (by decide)  (fun c1 => ?_) (fun c1 => ?_)
    · obtain ⟨a, ha, rfl⟩ := z_nonneg (x := x) (Int32.not_lt.mpr c1)
      have hlo : r_fewest s ≤ 10 := g_T_10 (s_gc s) (by omega)
      rw [z_isx_nI ha (by omega), nI_clamp ha] at hr
      refine v_aload_n E dX4_group_19 rfl ?_
      refine v_callV E dX4_group_20 k_X4_164 Y_X4_groups (mm_groups (d + 1) nl s hw I1 J1 ⟨g1, g2⟩ c) rfl rfl rfl (Nat.le_of_ble_eq_true rfl) ?_
      rintro r h' I2 J2 ⟨rfl, rfl, k1, k2, rfl⟩
      have hN2 := k2.mN ⟨g1, g2⟩
      have hS2 := hS.tr k2.mS
      refine v_iconst (v := nI 1) E dX4_group_23 (by decide) ?_
      refine v_aload_n E dX4_group_24 rfl ?_
      refine v_getIE E f_X4_73 dX4_group_25 rfl rfl hN2.2.1 ?_
      refine v_ishlN E dX4_group_28 (by omega) ?_
      refine v_p2 ?_
      refine v_iconst (v := nI 1) E dX4_group_29 (by decide) ?_
      refine v_isubN E dX4_group_30 (by omega) ?_
      refine v_istore_n E dX4_group_31 (by decide) ?_
      refine v_iload_n E dX4_group_32 rfl ?_
      refine v_istore_n E dX4_group_33 (by decide) ?_
      have loop : ∀ cc k, k + cc = r_fewest s → k ≤ a → ∀ lr, z_V K 34 ([(0, .ref 17), (1, .int (nI a)), (2, .int (nI (g_set (s_gc s) (s_nd s).length k))), (3, .int (nI (a - k)))] ++ lr) [] (z_s nl) I2 J2 0 0 := by
        intro cc
        induction cc with
        | zero =>
          intro k hk hka lr
          have hT := g_set_T (s_gc s) c k (show k ≤ r_fewest s by omega)
          have hTe : r_fewest s = g_T (s_gc s) (2 ^ (s_nd s).length - 1) := rfl
          have hlt := g_set_lt (s_gc s) (s_nd s).length k
          refine v_ls (ls2 := [(0, .ref 17), (1, .int (nI a)), (2, .int (nI (g_set (s_gc s) (s_nd s).length k))), (3, .int (nI (a - k)))]) (by intro q hq; simp only [List.mem_cons, List.not_mem_nil, or_false] at hq; rcases hq with rfl | rfl | rfl | rfl <;> rfl) ?_
          refine v_iload_n E dX4_group_34 rfl ?_
          refine v_if_leN (tgt := 118) E dX4_group_35 (by decide) (by omega) (fun c2 => ?_) (fun c2 => ?_)
          · refine v_iconst (v := -1) E dX4_group_118 (by decide) ?_
            exact v_iret E X dX4_group_119 (mR.e (by rw [hr, decide_eq_false (by omega)]; rfl) hS2)
          · have := g_T_pos (gc := s_gc s) (p2_10 c hlt) c2
            omega
        | succ cc ih =>
          intro k hk hka lr
          have hlt := g_set_lt (s_gc s) (s_nd s).length k
          have hpos := g_set_pos (s_gc s) c (k := k) (show k < r_fewest s by omega)
          have e9 : g_set (s_gc s) (s_nd s).length (k + 1) = q_df (g_set (s_gc s) (s_nd s).length k) (g_1st (s_gc s) (g_set (s_gc s) (s_nd s).length k)) := rfl
          have e10 : r_groupN s k = g_1st (s_gc s) (g_set (s_gc s) (s_nd s).length k) := rfl
          generalize g_set (s_gc s) (s_nd s).length k = set at hlt hpos e9 e10 ⊢
          have hset := p2_10 c hlt
          obtain ⟨o1, o2, o3⟩ := g_1st_ok (gc := s_gc s) hset hpos
          have hmin : ∀ g, g < g_1st (s_gc s) set → g_P (s_gc s) set g = false := by
            intro g hg
            cases hP : g_P (s_gc s) set g with
            | false => rfl
            | true =>
              have h1 := g_sub_le (g_ok_iff.mp o2).1
              have h2 := (o_ff_spec (P := g_P (s_gc s) set) (c := set + 1) (k := 0) (i := g) (by omega) (by omega) hP).2.2
              have h3 : g_1st (s_gc s) set ≤ g := h2
              omega
          have hle0 := g_sub_le (g_ok_iff.mp o2).1
          have hbit0 := (g_ok_iff.mp o2).2.1
          generalize g_1st (s_gc s) set = i0 at o1 o2 o3 hmin e9 e10 hle0 hbit0
          obtain ⟨l1, l2, l3, l4, l5, l6, l7⟩ := g_low_ok set hset hpos
          refine v_ls (ls2 := [(0, .ref 17), (1, .int (nI a)), (2, .int (nI set)), (3, .int (nI (a - k)))]) (by intro q hq; simp only [List.mem_cons, List.not_mem_nil, or_false] at hq; rcases hq with rfl | rfl | rfl | rfl <;> rfl) ?_
          refine v_iload_n E dX4_group_34 rfl ?_
          refine v_if_leN (tgt := 118) E dX4_group_35 (by decide) (by omega) (fun c2 => ?_) (fun c2 => ?_)
          · exact absurd c2 (by omega)
          · refine v_iconst (v := nI 1) E dX4_group_38 (by decide) ?_
            refine v_istore E dX4_group_39 (by decide) ?_
            have test : ∀ g, 0 < g → g ≤ i0 → (g_P (s_gc s) set g = false → z_V K 92 [(0, .ref 17), (1, .int (nI a)), (2, .int (nI set)), (3, .int (nI (a - k))), (4, .int (nI g))] [] (z_s nl) I2 J2 0 0) → (g_P (s_gc s) set g = true → z_V K 98 [(0, .ref 17), (1, .int (nI a)), (2, .int (nI set)), (3, .int (nI (a - k))), (4, .int (nI g))] [] (z_s nl) I2 J2 0 0) → z_V K 41 [(0, .ref 17), (1, .int (nI a)), (2, .int (nI set)), (3, .int (nI (a - k))), (4, .int (nI g))] [] (z_s nl) I2 J2 0 0 := by
              intro g hg0 hgi kno kyes
              have hdl : q_df g set < 1024 := q_df_lt (k := 10) (show g < 2 ^ 10 by omega)
              have n1 : g_ok (s_gc s) set g = false → g_P (s_gc s) set g = false := fun z => by unfold g_P; rw [z]; rfl
              refine v_iload E dX4_group_41 rfl ?_
              refine v_iload_n E dX4_group_43 rfl ?_
              refine v_iconst (v := -1) E dX4_group_44 (by decide) ?_
              refine v_ixor E dX4_group_45 ?_
              refine v_iand E dX4_group_46 ?_
              refine v_top (q_dif g set) ?_
              refine v_if_neN (tgt := 92) E dX4_group_47 (by decide) (by omega) (fun c3 => ?_) (fun c3 => ?_)
              · exact kno (n1 (by unfold g_ok; rw [decide_eq_false (by omega)]; rfl))
              · refine v_iload E dX4_group_50 rfl ?_
                refine v_iload_n E dX4_group_52 rfl ?_
                refine v_iandN E dX4_group_53 ?_
                refine v_iload_n E dX4_group_54 rfl ?_
                refine v_ineg E dX4_group_55 ?_
                refine v_iand E dX4_group_56 ?_
                refine v_top (q_low3 hset) ?_
                refine v_if_eqN (tgt := 92) E dX4_group_57 (by decide) (Nat.lt_of_le_of_lt Nat.and_le_left (by omega)) (fun c4 => ?_) (fun c4 => ?_)
                · rw [l1] at c4
                  exact kno (n1 (by unfold g_ok; rw [(q_and_p2 _ _).mp c4, Bool.false_and, Bool.and_false]))
                · have hbit : g.testBit (q_ctz set) = true := by
                    cases hb : g.testBit (q_ctz set) with
                    | true => rfl
                    | false =>
                      have := (q_and_p2 g (q_ctz set)).mpr hb
                      rw [← l1] at this
                      omega
                  refine v_aload_n E dX4_group_60 rfl ?_
                  refine v_getR E f_X4_79 dX4_group_61 rfl rfl rfl ?_
                  refine v_iload E dX4_group_64 rfl ?_
                  refine v_baloadE E dX4_group_66 rfl rfl (by omega) (by decide) (k1.2 g (by omega)) ?_
                  rw [decide_eq_true hg0, Bool.true_and]
                  refine v_if_eqB (tgt := 92) E dX4_group_67 (by decide)  (fun c5 => ?_) (fun c5 => ?_)
                  · exact kno (n1 (by unfold g_ok; rw [c5, Bool.and_false, Bool.and_false]))
                  · have hok : g_ok (s_gc s) set g = true := g_ok_iff.mpr ⟨c3, hbit, c5⟩
                    have hql := g_ok_lt hset hpos hok
                    have hT1 := g_T_10 (s_gc s) (set := q_df set g) (by omega)
                    have hT2 := g_T_10 (s_gc s) (set := set) (by omega)
                    have hT3 := g_T_le hset hpos hok
                    refine v_iconst (v := nI 1) E dX4_group_70 (by decide) ?_
                    refine v_aload_n E dX4_group_71 rfl ?_
                    refine v_getR E f_X4_76 dX4_group_72 rfl rfl rfl ?_
                    refine v_iload_n E dX4_group_75 rfl ?_
                    refine v_iload E dX4_group_76 rfl ?_
                    refine v_iconst (v := -1) E dX4_group_78 (by decide) ?_
                    refine v_ixor E dX4_group_79 ?_
                    refine v_iand E dX4_group_80 ?_
                    refine v_ialoadE E dX4_group_81 rfl (q_dif _ _) (by omega) (by decide) (k1.1 _ (by omega)) ?_
                    refine v_iaddN E dX4_group_82 ?_
                    refine v_aload_n E dX4_group_83 rfl ?_
                    refine v_getR E f_X4_76 dX4_group_84 rfl rfl rfl ?_
                    refine v_iload_n E dX4_group_87 rfl ?_
                    refine v_ialoadE E dX4_group_88 rfl rfl (by omega) (by decide) (k1.1 _ hlt) ?_
                    refine v_icmp_leN (tgt := 98) E dX4_group_89 (by decide) (by omega) (by omega) (fun c6 => ?_) (fun c6 => ?_)
                    · exact kyes (by unfold g_P; rw [hok, decide_eq_true (by omega)]; rfl)
                    · exact kno (by unfold g_P; rw [hok, decide_eq_false (by omega)]; rfl)
            have hi0 : 0 < i0 := by
              rcases Nat.eq_zero_or_pos i0 with z | z
              · rw [z, Nat.zero_testBit] at hbit0; cases hbit0
              · exact z
            have inner : ∀ e g, g + e = i0 → 0 < g → z_V K 41 [(0, .ref 17), (1, .int (nI a)), (2, .int (nI set)), (3, .int (nI (a - k))), (4, .int (nI g))] [] (z_s nl) I2 J2 0 0 := by
              intro e
              induction e with
              | zero =>
                intro g hg hg0
                have hg : g = i0 := by omega
                subst hg
                refine test g hg0 (Nat.le_refl _) (fun z => by rw [o1] at z; cases z) (fun _ => ?_)
                refine v_iload_n E dX4_group_98 rfl ?_
                refine v_if_neN (tgt := 105) E dX4_group_99 (by decide) (by omega) (fun c5 => ?_) (fun c5 => ?_)
                · refine v_iinc (v := nI (a - k - 1)) E dX4_group_105 rfl (q_dec1 _ (by omega)) (by decide) ?_
                  refine v_iload_n E dX4_group_108 rfl ?_
                  refine v_iload E dX4_group_109 rfl ?_
                  refine v_iconst (v := -1) E dX4_group_111 (by decide) ?_
                  refine v_ixor E dX4_group_112 ?_
                  refine v_iand E dX4_group_113 ?_
                  refine v_top (q_dif set g) ?_
                  refine v_istore_n E dX4_group_114 (by decide) ?_
                  refine v_goto (tgt := 34) E dX4_group_115 (by decide) ?_
                  rw [← e9]
                  have i1 := ih (k + 1) (by omega) (by omega) [(4, .int (nI g))]
                  rw [show a - (k + 1) = a - k - 1 by omega] at i1
                  exact i1
                · refine v_iload E dX4_group_102 rfl ?_
                  have hak : a = k := by omega
                  subst hak
                  exact v_iret E X dX4_group_104 (mR.e (by rw [hr, decide_eq_true (by omega), e10]; rfl) hS2)
              | succ e ih2 =>
                intro g hg hg0
                refine test g hg0 (by omega) (fun _ => ?_) (fun z => by rw [hmin g (by omega)] at z; cases z)
                refine v_inc E dX4_group_92 rfl (by decide) ?_
                refine v_goto (tgt := 41) E dX4_group_95 (by decide) ?_
                exact ih2 (g + 1) (by omega) (by omega)
            exact inner (i0 - 1) 1 (by omega) (by omega)
      exact loop (r_fewest s) 0 (by omega) (by omega) []
    · exact no (by
        rw [hr]
        have : z_isx x (r_fewest s) = false := decide_eq_false (fun z => c1 (Int32.not_lt.mp z.1))
        rw [this]
        rfl)
