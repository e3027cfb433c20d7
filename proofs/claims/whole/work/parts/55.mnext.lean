/-! THE MODEL: going on -/
theorem s_pw_1 {s : zS} (hw : s_wf s) {m : Nat} (hm : m < 2 ^ s_np s) (l : Nat) : b_sv (s_kd s l) (s_hp s l) (s_wt s l) (s_np s) (fun p => l_sp (m :: s_rows s l) (2 ^ p)) = s_pw s [m] l := by
  have hr : ∀ r ∈ m :: s_rows s l, r < 2 ^ s_np s := fun r h => (List.mem_cons.mp h).elim (fun e => by rw [e]; exact hm) (s_rows_np hw l (Nat.le_refl _) r)
  rw [b_sv_eq hw.1 hr (hw.2.2.2.2.1 l)]
  rfl
theorem s_pw_old {s : zS} (hw : s_wf s) {m : Nat} (hm : m < 2 ^ s_np s) (l : Nat) (h : l_sp (s_rows s l) m = true) : s_pw s [m] l = s_sv s l := by
  rw [← s_pw_1 hw hm, b_sv_congr (V := fun p => l_sp (s_rows s l) (2 ^ p)) (fun p _ => l_sp_old h (2 ^ p)), b_sv_eq (rs := s_rows s l) hw.1 (s_rows_np hw l (Nat.le_refl _)) (hw.2.2.2.2.1 l)]
  rfl
theorem s_bs_eq {s : zS} (hw : s_wf s) {m : Nat} (hm : m < 2 ^ s_np s) (l : Nat) : s_bs s m l = (s_wait s l && s_pw s [m] l) := by
  unfold s_bs s_nr
  cases h : l_sp (s_rows s l) m with
  | false => simp
  | true =>
    rw [s_pw_old hw hm l h]
    unfold s_wait
    cases s_of s l <;> cases s_sv s l <;> rfl
theorem s_bs_le (s : zS) (m : Nat) : ∀ k, l_cnt (s_bs s m) k ≤ l_cnt (s_nr s m) k := l_cnt_mono (fun l h => by
  unfold s_bs at h
  rw [Bool.and_eq_true] at h
  exact h.1)
theorem s_bk_0 (s : zS) : ∀ k, (s_bk s k).2 = 0 → (s_bk s k).1 = 0
  | 0, _ => rfl
  | k + 1, h => by
    simp only [s_bk] at h ⊢
    by_cases e : (s_bk s k).2 < s_wr s (k + 1)
    · rw [if_pos e] at h
      have h : s_wr s (k + 1) = 0 := h
      omega
    · rw [if_neg e] at h ⊢
      exact s_bk_0 s k h
theorem mm_next (d nl : Nat) (s : zS) (hw : s_wf s) (I : zI) (J : zJ) (hm : mI s I J) : z_C yX4_next cX4_next 9 (some .int) (d + 3) [.ref 17] (z_s nl) I J 0 0 (mR (.int (nI (s_best s))) nl I J) := by
  have w1 := hw.1
  have w2 := hw.2.1
  have hp0 := Nat.two_pow_pos (s_np s)
  have hp2 : 2 ^ s_np s ≤ 1024 := Nat.pow_le_pow_right (n := 2) (by decide) w1
  refine z_C.of (by decide) (Nat.le_of_ble_eq_true rfl) fun K E X => ?_
  refine v_aload_n E dX4_next_0 rfl ?_
  refine v_callV E dX4_next_1 k_X4_141 Y_X4_knowAll (mm_knowAll d nl s hw I J hm) rfl rfl rfl (Nat.le_of_ble_eq_true rfl) ?_
  rintro r h' I1 J1 ⟨rfl, rfl, g1, hS, rfl⟩
  obtain ⟨m1, m2, m3, m4, m5, m6, m7, m8, m9, m10, m11⟩ := hS.mI hm
  have hmi := hS.mI hm
  refine v_iconst (v := nI 0) E dX4_next_4 (by decide) ?_
  refine v_istore_n E dX4_next_5 (by decide) ?_
  refine v_iconst (v := -1) E dX4_next_6 (by decide) ?_
  refine v_istore_n E dX4_next_7 (by decide) ?_
  refine v_iconst (v := -1) E dX4_next_8 (by decide) ?_
  refine v_istore_n E dX4_next_9 (by decide) ?_
  refine v_iconst (v := nI 0) E dX4_next_10 (by decide) ?_
  refine v_istore E dX4_next_11 (by decide) ?_
  refine v_iconst (v := nI 1) E dX4_next_13 (by decide) ?_
  refine v_istore E dX4_next_14 (by decide) ?_
  -- of one mask: how many become served, how many get nearer
  have count : ∀ (vm vl : Int32) (vmask : Nat) (va : Bool) (m : Nat), 0 < m → m < 2 ^ s_np s → (∀ lb, z_V K 116 [(0, .ref 17), (1, .int (nI vmask)), (2, .int vm), (3, .int vl), (4, .int (nI va.toNat)), (5, .int (nI m)), (6, .int (nI (l_cnt (s_bs s m) (s_nl s)))), (7, .int (nI (l_cnt (s_nr s m) (s_nl s)))), (8, .int lb)] [] (z_s nl) I1 J1 0 0) → z_V K 27 [(0, .ref 17), (1, .int (nI vmask)), (2, .int vm), (3, .int vl), (4, .int (nI va.toNat)), (5, .int (nI m))] [] (z_s nl) I1 J1 0 0 := by
    intro vm vl vmask va m hm0 hmp go
    have hm1 := p2_10 w1 hmp
    refine v_iconst (v := nI 0) E dX4_next_27 (by decide) ?_
    refine v_istore E dX4_next_28 (by decide) ?_
    refine v_iconst (v := nI 0) E dX4_next_30 (by decide) ?_
    refine v_istore E dX4_next_31 (by decide) ?_
    refine v_iconst (v := nI 0) E dX4_next_33 (by decide) ?_
    refine v_istore E dX4_next_34 (by decide) ?_
    have loop : ∀ k, k ≤ s_nl s → z_V K 36 [(0, .ref 17), (1, .int (nI vmask)), (2, .int vm), (3, .int vl), (4, .int (nI va.toNat)), (5, .int (nI m)), (6, .int (nI (l_cnt (s_bs s m) k))), (7, .int (nI (l_cnt (s_nr s m) k))), (8, .int (nI k))] [] (z_s nl) I1 J1 0 0 := by
      refine z_for _ ?_ (fun k hk ih => ?_)
      · refine v_iload E dX4_next_36 rfl ?_
        refine v_aload_n E dX4_next_38 rfl ?_
        refine v_getIE E f_X4_13 dX4_next_39 rfl rfl m2 ?_
        refine v_icmp_geN (tgt := 116) E dX4_next_42 (by decide) (by omega) (by omega) (fun c => ?_) (fun c => ?_)
        · exact go _
        · exact absurd c (by omega)
      · have eb : l_cnt (s_bs s m) (k + 1) = l_cnt (s_bs s m) k + (s_bs s m k).toNat := rfl
        have en : l_cnt (s_nr s m) (k + 1) = l_cnt (s_nr s m) k + (s_nr s m k).toNat := rfl
        have skip : s_wait s k = false → z_V K 110 [(0, .ref 17), (1, .int (nI vmask)), (2, .int vm), (3, .int vl), (4, .int (nI va.toNat)), (5, .int (nI m)), (6, .int (nI (l_cnt (s_bs s m) k))), (7, .int (nI (l_cnt (s_nr s m) k))), (8, .int (nI k))] [] (z_s nl) I1 J1 0 0 := by
          intro hwt
          have n1 : s_nr s m k = false := by unfold s_nr; rw [hwt]; rfl
          have n2 : s_bs s m k = false := by unfold s_bs; rw [n1]; rfl
          rw [n2] at eb
          rw [n1] at en
          have eb : l_cnt (s_bs s m) (k + 1) = l_cnt (s_bs s m) k := eb
          have en : l_cnt (s_nr s m) (k + 1) = l_cnt (s_nr s m) k := en
          rw [eb, en] at ih
          refine v_inc E dX4_next_110 rfl (by decide) ?_
          refine v_goto (tgt := 36) E dX4_next_113 (by decide) ?_
          exact ih
        refine v_iload E dX4_next_36 rfl ?_
        refine v_aload_n E dX4_next_38 rfl ?_
        refine v_getIE E f_X4_13 dX4_next_39 rfl rfl m2 ?_
        refine v_icmp_geN (tgt := 116) E dX4_next_42 (by decide) (by omega) (by omega) (fun c => ?_) (fun c => ?_)
        · exact absurd c (by omega)
        · refine v_aload_n E dX4_next_45 rfl ?_
          refine v_getR E f_X4_36 dX4_next_46 rfl rfl rfl ?_
          refine v_iload E dX4_next_49 rfl ?_
          refine v_baloadE E dX4_next_51 rfl rfl (by omega) (by decide) (m9 k (by omega)) ?_
          refine v_if_neB (tgt := 110) E dX4_next_52 (by decide)  (fun c1 => ?_) (fun c1 => ?_)
          · exact skip (by unfold s_wait; rw [c1]; rfl)
          · refine v_aload_n E dX4_next_55 rfl ?_
            refine v_iload E dX4_next_56 rfl ?_
            refine v_iconst (v := nI 0) E dX4_next_58 (by decide) ?_
            refine v_callV1 E dX4_next_59 k_X4_130 Y_X4_isServed (mm_served0 (d + 1) nl s hw I1 J1 hmi k hk (s_rows s k) (s_rows_np hw k (Nat.le_refl _)) (g1 k hk)) rfl rfl rfl (Nat.le_of_ble_eq_true rfl) ?_
            change z_V K _ _ (.int (nI (s_sv s k).toNat) :: _) _ _ _ _ _
            refine v_if_eqB (tgt := 68) E dX4_next_62 (by decide)  (fun c2 => ?_) (fun c2 => ?_)
            · have hwt : s_wait s k = true := by unfold s_wait; rw [c1, c2]; rfl
              have e1 : s_bs s m k = s_pw s [m] k := by rw [s_bs_eq hw hmp, hwt]; rfl
              have e2 : s_nr s m k = !l_sp (s_rows s k) m := by unfold s_nr; rw [hwt]; rfl
              have t2 : ∀ g : Bool, g = s_nr s m k → z_V K 107 [(0, .ref 17), (1, .int (nI vmask)), (2, .int vm), (3, .int vl), (4, .int (nI va.toNat)), (5, .int (nI m)), (6, .int (nI (l_cnt (s_bs s m) (k + 1)))), (7, .int (nI (l_cnt (s_nr s m) k))), (8, .int (nI k))] [.int (nI g.toNat), .int (nI (l_cnt (s_nr s m) k))] (z_s nl) I1 J1 0 0 := by
                rintro g rfl
                refine v_iaddN E dX4_next_107 ?_
                refine v_istore E dX4_next_108 (by decide) ?_
                refine v_inc E dX4_next_110 rfl (by decide) ?_
                refine v_goto (tgt := 36) E dX4_next_113 (by decide) ?_
                exact ih
              have t1 : ∀ g : Bool, g = s_bs s m k → z_V K 86 [(0, .ref 17), (1, .int (nI vmask)), (2, .int vm), (3, .int vl), (4, .int (nI va.toNat)), (5, .int (nI m)), (6, .int (nI (l_cnt (s_bs s m) k))), (7, .int (nI (l_cnt (s_nr s m) k))), (8, .int (nI k))] [.int (nI g.toNat), .int (nI (l_cnt (s_bs s m) k))] (z_s nl) I1 J1 0 0 := by
                rintro g rfl
                refine v_iaddN E dX4_next_86 ?_
                refine v_istore E dX4_next_87 (by decide) ?_
                refine v_iload E dX4_next_89 rfl ?_
                refine v_aload_n E dX4_next_91 rfl ?_
                refine v_iload E dX4_next_92 rfl ?_
                refine v_iload E dX4_next_94 rfl ?_
                refine v_callV1 E dX4_next_96 k_X4_124 Y_X4_isOut (mm_isOut (d + 2) nl I1 J1 k (by omega) (g1 k hk) m hm1) rfl rfl rfl (Nat.le_of_ble_eq_true rfl) ?_
                refine v_if_eqB (tgt := 106) E dX4_next_99 (by decide)  (fun c3 => ?_) (fun c3 => ?_)
                · refine v_iconst (v := nI 1) E dX4_next_106 (by decide) ?_
                  exact t2 true (by rw [e2, c3]; rfl)
                · refine v_iconst (v := nI 0) E dX4_next_102 (by decide) ?_
                  refine v_goto (tgt := 107) E dX4_next_103 (by decide) ?_
                  exact t2 false (by rw [e2, c3]; rfl)
              refine v_iload E dX4_next_68 rfl ?_
              refine v_aload_n E dX4_next_70 rfl ?_
              refine v_iload E dX4_next_71 rfl ?_
              refine v_iload E dX4_next_73 rfl ?_
              refine v_callV1 E dX4_next_75 k_X4_130 Y_X4_isServed (mm_isServed (d + 1) nl s hw I1 J1 hmi k hk (s_rows s k) (g1 k hk) m hm1) rfl rfl rfl (Nat.le_of_ble_eq_true rfl) ?_
              rw [s_pw_1 hw hmp]
              refine v_if_eqB (tgt := 85) E dX4_next_78 (by decide)  (fun c3 => ?_) (fun c3 => ?_)
              · refine v_iconst (v := nI 0) E dX4_next_85 (by decide) ?_
                exact t1 false (by rw [e1, c3])
              · refine v_iconst (v := nI 1) E dX4_next_81 (by decide) ?_
                refine v_goto (tgt := 86) E dX4_next_82 (by decide) ?_
                exact t1 true (by rw [e1, c3])
            · refine v_goto (tgt := 110) E dX4_next_65 (by decide) ?_
              exact skip (by unfold s_wait; rw [c2, Bool.not_true, Bool.and_false])
    exact loop 0 (by omega)
  -- from mask k + 1 on, k at least 1
  have loop : ∀ cc k, k + cc = 2 ^ s_np s - 1 → 1 ≤ k → ∀ (best most less : Nat), most ≤ 10 → less ≤ 10 → most * 11 + less = (s_bk s k).2 → (0 < (s_bk s k).2 → best = (s_bk s k).1) → ∀ lr, z_V K 16 ([(0, .ref 17), (1, .int (nI best)), (2, .int (nI most)), (3, .int (nI less)), (4, .int (nI (decide (0 < (s_bk s k).2)).toNat)), (5, .int (nI (k + 1)))] ++ lr) [] (z_s nl) I1 J1 0 0 := by
    intro cc
    induction cc with
    | zero =>
      intro k hk hk1 best most less h1 h2 h3 h4 lr
      refine v_ls (ls2 := [(0, .ref 17), (1, .int (nI best)), (2, .int (nI most)), (3, .int (nI less)), (4, .int (nI (decide (0 < (s_bk s k).2)).toNat)), (5, .int (nI (k + 1)))]) (by intro q hq; simp only [List.mem_cons, List.not_mem_nil, or_false] at hq; rcases hq with rfl | rfl | rfl | rfl | rfl | rfl <;> rfl) ?_
      have hb : s_best s = (s_bk s k).1 := by unfold s_best; rw [show 2 ^ s_np s - 1 = k by omega]
      refine v_iload E dX4_next_16 rfl ?_
      refine v_iconst (v := nI 1) E dX4_next_18 (by decide) ?_
      refine v_aload_n E dX4_next_19 rfl ?_
      refine v_getIE E f_X4_7 dX4_next_20 rfl rfl m1 ?_
      refine v_ishlN E dX4_next_23 (by omega) ?_
      refine v_p2 ?_
      refine v_icmp_geN (tgt := 169) E dX4_next_24 (by decide) (by omega) (by omega) (fun c => ?_) (fun c => ?_)
      · refine v_iload E dX4_next_169 rfl ?_
        refine v_if_eqB (tgt := 178) E dX4_next_171 (by decide)  (fun c1 => ?_) (fun c1 => ?_)
        · have := of_decide_eq_false c1
          refine v_iconst (v := nI 0) E dX4_next_178 (by decide) ?_
          exact v_iret E X dX4_next_179 (mR.e (by rw [hb, s_bk_0 s k (by omega)]) hS)
        · have := of_decide_eq_true c1
          refine v_iload_n E dX4_next_174 rfl ?_
          refine v_goto (tgt := 179) E dX4_next_175 (by decide) ?_
          exact v_iret E X dX4_next_179 (mR.e (by rw [hb, h4 this]) hS)
      · exact absurd c (by omega)
    | succ cc ih =>
      intro k hk hk1 best most less h1 h2 h3 h4 lr
      refine v_ls (ls2 := [(0, .ref 17), (1, .int (nI best)), (2, .int (nI most)), (3, .int (nI less)), (4, .int (nI (decide (0 < (s_bk s k).2)).toNat)), (5, .int (nI (k + 1)))]) (by intro q hq; simp only [List.mem_cons, List.not_mem_nil, or_false] at hq; rcases hq with rfl | rfl | rfl | rfl | rfl | rfl <;> rfl) ?_
      have hB := l_cnt_le (s_bs s (k + 1)) (s_nl s)
      have hN := l_cnt_le (s_nr s (k + 1)) (s_nl s)
      have hBN := s_bs_le s (k + 1) (s_nl s)
      have hW : s_wr s (k + 1) = l_cnt (s_bs s (k + 1)) (s_nl s) * 11 + l_cnt (s_nr s (k + 1)) (s_nl s) := rfl
      have hK : s_bk s (k + 1) = if (s_bk s k).2 < s_wr s (k + 1) then (k + 1, s_wr s (k + 1)) else s_bk s k := rfl
      refine v_iload E dX4_next_16 rfl ?_
      refine v_iconst (v := nI 1) E dX4_next_18 (by decide) ?_
      refine v_aload_n E dX4_next_19 rfl ?_
      refine v_getIE E f_X4_7 dX4_next_20 rfl rfl m1 ?_
      refine v_ishlN E dX4_next_23 (by omega) ?_
      refine v_p2 ?_
      refine v_icmp_geN (tgt := 169) E dX4_next_24 (by decide) (by omega) (by omega) (fun c => ?_) (fun c => ?_)
      · exact absurd c (by omega)
      · refine count (nI most) (nI less) best (decide (0 < (s_bk s k).2)) (k + 1) (by omega) (by omega) (fun lb => ?_)
        generalize l_cnt (s_bs s (k + 1)) (s_nl s) = nb at hB hBN hW ⊢
        generalize l_cnt (s_nr s (k + 1)) (s_nl s) = nf at hN hBN hW ⊢
        have hany : (decide (0 < (s_bk s (k + 1)).2)) = (decide (0 < (s_bk s k).2) || decide (0 < nf)) := by
          rw [← Bool.decide_or]
          apply decide_eq_decide.mpr
          rw [hK]
          split <;> constructor
          · intro _; omega
          · intro _
            show 0 < s_wr s (k + 1)
            omega
          · intro z; exact Or.inl z
          · rintro (z | z)
            · exact z
            · omega
        have t1 : ∀ g : Bool, g = decide (0 < (s_bk s (k + 1)).2) → z_V K 131 [(0, .ref 17), (1, .int (nI best)), (2, .int (nI most)), (3, .int (nI less)), (4, .int (nI (decide (0 < (s_bk s k).2)).toNat)), (5, .int (nI (k + 1))), (6, .int (nI nb)), (7, .int (nI nf)), (8, .int lb)] [.int (nI g.toNat)] (z_s nl) I1 J1 0 0 := by
          rintro g rfl
          have stay : ¬ (s_bk s k).2 < s_wr s (k + 1) → z_V K 163 [(0, .ref 17), (1, .int (nI best)), (2, .int (nI most)), (3, .int (nI less)), (4, .int (nI (decide (0 < (s_bk s (k + 1)).2)).toNat)), (5, .int (nI (k + 1))), (6, .int (nI nb)), (7, .int (nI nf)), (8, .int lb)] [] (z_s nl) I1 J1 0 0 := by
            intro hno
            rw [if_neg hno] at hK
            refine v_inc E dX4_next_163 rfl (by decide) ?_
            refine v_goto (tgt := 16) E dX4_next_166 (by decide) ?_
            exact ih (k + 1) (by omega) (by omega) best most less h1 h2 (by rw [hK]; exact h3) (by rw [hK]; exact h4) [(6, .int (nI nb)), (7, .int (nI nf)), (8, .int lb)]
          have upd : (s_bk s k).2 < s_wr s (k + 1) → z_V K 154 [(0, .ref 17), (1, .int (nI best)), (2, .int (nI most)), (3, .int (nI less)), (4, .int (nI (decide (0 < (s_bk s (k + 1)).2)).toNat)), (5, .int (nI (k + 1))), (6, .int (nI nb)), (7, .int (nI nf)), (8, .int lb)] [] (z_s nl) I1 J1 0 0 := by
            intro hy
            rw [if_pos hy] at hK
            refine v_iload E dX4_next_154 rfl ?_
            refine v_istore_n E dX4_next_156 (by decide) ?_
            refine v_iload E dX4_next_157 rfl ?_
            refine v_istore_n E dX4_next_159 (by decide) ?_
            refine v_iload E dX4_next_160 rfl ?_
            refine v_istore_n E dX4_next_162 (by decide) ?_
            refine v_inc E dX4_next_163 rfl (by decide) ?_
            refine v_goto (tgt := 16) E dX4_next_166 (by decide) ?_
            exact ih (k + 1) (by omega) (by omega) (k + 1) nb nf (by omega) (by omega) (by rw [hK]; exact hW.symm) (by rw [hK]; intro _; rfl) [(6, .int (nI nb)), (7, .int (nI nf)), (8, .int lb)]
          refine v_istore E dX4_next_131 (by decide) ?_
          refine v_iload E dX4_next_133 rfl ?_
          refine v_iload_n E dX4_next_135 rfl ?_
          refine v_icmp_ltN (tgt := 163) E dX4_next_136 (by decide) (by omega) (by omega) (fun c1 => ?_) (fun c1 => ?_)
          · exact stay (by omega)
          · refine v_iload E dX4_next_139 rfl ?_
            refine v_iload_n E dX4_next_141 rfl ?_
            refine v_icmp_neN (tgt := 154) E dX4_next_142 (by decide) (by omega) (by omega) (fun c2 => ?_) (fun c2 => ?_)
            · exact upd (by omega)
            · refine v_iload E dX4_next_145 rfl ?_
              refine v_iload_n E dX4_next_147 rfl ?_
              refine v_icmp_gtN (tgt := 154) E dX4_next_148 (by decide) (by omega) (by omega) (fun c3 => ?_) (fun c3 => ?_)
              · exact upd (by omega)
              · refine v_goto (tgt := 163) E dX4_next_151 (by decide) ?_
                exact stay (by omega)
        refine v_iload E dX4_next_116 rfl ?_
        refine v_if_neB (tgt := 126) E dX4_next_118 (by decide)  (fun c1 => ?_) (fun c1 => ?_)
        · refine v_iconst (v := nI 1) E dX4_next_126 (by decide) ?_
          refine v_goto (tgt := 131) E dX4_next_127 (by decide) ?_
          exact t1 true (by rw [hany, c1]; rfl)
        · refine v_iload E dX4_next_121 rfl ?_
          refine v_if_leN (tgt := 130) E dX4_next_123 (by decide) (by omega) (fun c2 => ?_) (fun c2 => ?_)
          · refine v_iconst (v := nI 0) E dX4_next_130 (by decide) ?_
            exact t1 false (by rw [hany, c1, decide_eq_false (by omega)]; rfl)
          · refine v_iconst (v := nI 1) E dX4_next_126 (by decide) ?_
            refine v_goto (tgt := 131) E dX4_next_127 (by decide) ?_
            exact t1 true (by rw [hany, decide_eq_true c2, Bool.or_true])
  -- the first mask
  refine v_iload E dX4_next_16 rfl ?_
  refine v_iconst (v := nI 1) E dX4_next_18 (by decide) ?_
  refine v_aload_n E dX4_next_19 rfl ?_
  refine v_getIE E f_X4_7 dX4_next_20 rfl rfl m1 ?_
  refine v_ishlN E dX4_next_23 (by omega) ?_
  refine v_p2 ?_
  refine v_icmp_geN (tgt := 169) E dX4_next_24 (by decide) (by omega) (by omega) (fun c => ?_) (fun c => ?_)
  · have hb : s_best s = 0 := by
      unfold s_best
      rw [show 2 ^ s_np s - 1 = 0 by omega]
      rfl
    refine v_iload E dX4_next_169 rfl ?_
    refine v_if_eqN (tgt := 178) E dX4_next_171 (by decide) (by omega) (fun c1 => ?_) (fun c1 => ?_)
    · refine v_iconst (v := nI 0) E dX4_next_178 (by decide) ?_
      exact v_iret E X dX4_next_179 (mR.e (by rw [hb]) hS)
    · exact absurd c1 (by omega)
  · refine count (-1) (-1) 0 false 1 (by omega) (by omega) (fun lb => ?_)
    have hB := l_cnt_le (s_bs s 1) (s_nl s)
    have hN := l_cnt_le (s_nr s 1) (s_nl s)
    have hBN := s_bs_le s 1 (s_nl s)
    have hW : s_wr s 1 = l_cnt (s_bs s 1) (s_nl s) * 11 + l_cnt (s_nr s 1) (s_nl s) := rfl
    have hK : s_bk s 1 = if 0 < s_wr s 1 then (1, s_wr s 1) else (0, 0) := rfl
    generalize l_cnt (s_bs s 1) (s_nl s) = nb at hB hBN hW ⊢
    generalize l_cnt (s_nr s 1) (s_nl s) = nf at hN hBN hW ⊢
    have hK2 : (s_bk s 1).2 = s_wr s 1 := by
      rw [hK]
      split
      · rfl
      · show 0 = _
        omega
    have hany : decide (0 < (s_bk s 1).2) = decide (0 < nf) := by
      apply decide_eq_decide.mpr
      rw [hK2]
      omega
    have t1 : ∀ g : Bool, g = decide (0 < (s_bk s 1).2) → z_V K 131 [(0, .ref 17), (1, .int (nI 0)), (2, .int (-1)), (3, .int (-1)), (4, .int (nI false.toNat)), (5, .int (nI 1)), (6, .int (nI nb)), (7, .int (nI nf)), (8, .int lb)] [.int (nI g.toNat)] (z_s nl) I1 J1 0 0 := by
      rintro g rfl
      refine v_istore E dX4_next_131 (by decide) ?_
      refine v_iload E dX4_next_133 rfl ?_
      refine v_iload_n E dX4_next_135 rfl ?_
      refine v_icmp_lt (tgt := 163) E dX4_next_136 (by decide)  (fun c1 => ?_) (fun c1 => ?_)
      · exact absurd c1 (by rw [Int32.lt_iff_toInt_lt, nI_toInt (by omega)]; show ¬ (nb : Int) < -1; omega)
      · refine v_iload E dX4_next_139 rfl ?_
        refine v_iload_n E dX4_next_141 rfl ?_
        refine v_icmp_ne (tgt := 154) E dX4_next_142 (by decide)  (fun c2 => ?_) (fun c2 => ?_)
        · refine v_iload E dX4_next_154 rfl ?_
          refine v_istore_n E dX4_next_156 (by decide) ?_
          refine v_iload E dX4_next_157 rfl ?_
          refine v_istore_n E dX4_next_159 (by decide) ?_
          refine v_iload E dX4_next_160 rfl ?_
          refine v_istore_n E dX4_next_162 (by decide) ?_
          refine v_inc E dX4_next_163 rfl (by decide) ?_
          refine v_goto (tgt := 16) E dX4_next_166 (by decide) ?_
          exact loop (2 ^ s_np s - 1 - 1) 1 (by omega) (by omega) 1 nb nf (by omega) (by omega) (by rw [hK2, hW]) (by
            intro z
            rw [hK2] at z
            rw [hK, if_pos z]) [(6, .int (nI nb)), (7, .int (nI nf)), (8, .int lb)]
        · exact absurd c2 (fun z => by
            have := congrArg Int32.toInt z
            rw [nI_toInt (by omega)] at this
            have h9 : (nb : Int) = -1 := this
            omega)
    refine v_iload E dX4_next_116 rfl ?_
    refine v_if_neB (tgt := 126) E dX4_next_118 (by decide)  (fun c1 => ?_) (fun c1 => ?_)
    · cases c1
    · refine v_iload E dX4_next_121 rfl ?_
      refine v_if_leN (tgt := 130) E dX4_next_123 (by decide) (by omega) (fun c2 => ?_) (fun c2 => ?_)
      · refine v_iconst (v := nI 0) E dX4_next_130 (by decide) ?_
        exact t1 false (by rw [hany, decide_eq_false (by omega)])
      · refine v_iconst (v := nI 1) E dX4_next_126 (by decide) ?_
        refine v_goto (tgt := 131) E dX4_next_127 (by decide) ?_
        exact t1 true (by rw [hany, decide_eq_true c2])
theorem mm_goOn (d nl : Nat) (s : zS) (hw : s_wf s) (I : zI) (J : zJ) (hm : mI s I J) : z_C yX4_goOn cX4_goOn 3 (some .int) (d + 4) [.ref 17] (z_s nl) I J 0 0 (mQ (a_goOn s) nl I J) := by
  have w3 := hw.2.2.1
  have hbl := p2_10 hw.1 (s_best_lt (s := s))
  refine z_C.of (by decide) (Nat.le_of_ble_eq_true rfl) fun K E X => ?_
  refine v_aload_n E dX4_goOn_0 rfl ?_
  refine v_getIE E f_X4_16 dX4_goOn_1 rfl rfl hm.2.2.1 ?_
  refine v_bipush (v := nI 40) E dX4_goOn_4 (by decide) ?_
  refine v_icmp_neN (tgt := 12) E dX4_goOn_6 (by decide) (by omega) (by omega) (fun c => ?_) (fun c => ?_)
  · refine v_aload_n E dX4_goOn_12 rfl ?_
    refine v_callV E dX4_goOn_13 k_X4_191 Y_X4_next (mm_next d nl s hw I J hm) rfl rfl rfl (Nat.le_of_ble_eq_true rfl) ?_
    rintro r h' I1 J1 ⟨rfl, rfl, hS, rfl⟩
    refine v_istore_n E dX4_goOn_16 (by decide) ?_
    refine v_iload_n E dX4_goOn_17 rfl ?_
    refine v_if_leN (tgt := 27) E dX4_goOn_18 (by decide) (by omega) (fun c1 => ?_) (fun c1 => ?_)
    · have ea : a_goOn s = (0, s) := by unfold a_goOn; rw [if_neg (by omega), if_pos c1]
      rw [ea] at X
      refine v_iload_n E dX4_goOn_27 rfl ?_
      exact v_iret E X dX4_goOn_28 ⟨by rw [c1]; rfl, rfl, hS.mI hm, hS.x⟩
    · have ea : a_goOn s = (nI (s_best s), t_say s (s_best s)) := by unfold a_goOn; rw [if_neg (by omega), if_neg (by omega)]
      rw [ea] at X
      refine v_aload_n E dX4_goOn_21 rfl ?_
      refine v_iload_n E dX4_goOn_22 rfl ?_
      refine v_callV E dX4_goOn_23 k_X4_105 Y_X4_said (mm_said (d + 3) nl s hw I1 J1 (hS.mI hm) (s_best s) (by omega)) rfl rfl rfl (Nat.le_of_ble_eq_true rfl) ?_
      rintro r h' I2 J2 ⟨rfl, rfl, g1, g2⟩
      refine v_istore_n E dX4_goOn_26 (by decide) ?_
      refine v_iload_n E dX4_goOn_27 rfl ?_
      exact v_iret E X dX4_goOn_28 ⟨rfl, rfl, g1, fun q hq => ⟨(g2 q hq).1.trans (hS.x (J := J1) q hq).1, (g2 q hq).2⟩⟩
  · refine v_bipush (v := -4) E dX4_goOn_9 (by decide) ?_
    exact v_iret E X dX4_goOn_11 (mQ.same (by unfold a_goOn; rw [if_pos (by omega)]) hm)
theorem a_goOn_pos {s : zS} (hw : s_wf s) (h : 0 < (a_goOn s).1) : s_nc (a_goOn s).2 = s_nc s + 1 := by
  unfold a_goOn at h ⊢
  by_cases e : 40 ≤ s_nc s
  · rw [if_pos e] at h; exact absurd (show (0 : Int32) < -4 from h) (by decide)
  · rw [if_neg e] at h ⊢
    by_cases e2 : s_best s = 0
    · rw [if_pos e2] at h; exact absurd (show (0 : Int32) < 0 from h) (by decide)
    · rw [if_neg e2]
      rfl
theorem mm_finish (d nl : Nat) (s : zS) (hw : s_wf s) (I : zI) (J : zJ) (hm : mI s I J) : z_C yX4_finish cX4_finish 3 (some .int) (d + 5) [.ref 17] (z_s nl) I J 0 0 (mQ (a_finish s) nl I J) := by
  refine z_C.of (by decide) (Nat.le_of_ble_eq_true rfl) fun K E X => ?_
  refine v_iconst (v := nI 0) E dX4_finish_0 (by decide) ?_
  refine v_istore_n E dX4_finish_1 (by decide) ?_
  refine v_iconst (v := nI 1) E dX4_finish_2 (by decide) ?_
  refine v_istore_n E dX4_finish_3 (by decide) ?_
  have loop : ∀ k (j : Nat) (s2 : zS) (I2 : zI) (J2 : zJ), s_wf s2 → mI s2 I2 J2 → xFr I J I2 J2 → 40 ≤ k + s_nc s2 → j + (a_fin k s2).1 = (a_fin 40 s).1 → (a_fin k s2).2 = (a_fin 40 s).2 → z_V K 4 [(0, .ref 17), (1, .int (nI j)), (2, .int (nI 1))] [] (z_s nl) I2 J2 0 0 := by
    intro k
    have stop : ∀ (j : Nat) (I2 : zI) (J2 : zJ), mI (a_fin 40 s).2 I2 J2 → xFr I J I2 J2 → j = (a_fin 40 s).1 → z_V K 19 [(0, .ref 17), (1, .int (nI j)), (2, .int (nI 1))] [] (z_s nl) I2 J2 0 0 := by
      intro j I2 J2 h1 h2 h3
      refine v_iconst (v := nI 0) E dX4_finish_19 (by decide) ?_
      refine v_istore_n E dX4_finish_20 (by decide) ?_
      refine v_iload_n E dX4_finish_21 rfl ?_
      refine v_iload_n E dX4_finish_22 rfl ?_
      refine v_if_eqN (tgt := 30) E dX4_finish_23 (by decide) (by omega) (fun c => ?_) (fun c => ?_)
      · refine v_iconst (v := nI 0) E dX4_finish_30 (by decide) ?_
        refine v_iaddN E dX4_finish_31 ?_
        refine v_istore_n E dX4_finish_32 (by decide) ?_
        refine v_goto (tgt := 4) E dX4_finish_33 (by decide) ?_
        refine v_iload_n E dX4_finish_4 rfl ?_
        refine v_if_eqN (tgt := 36) E dX4_finish_5 (by decide) (by omega) (fun c2 => ?_) (fun c2 => ?_)
        · refine v_iload_n E dX4_finish_36 rfl ?_
          exact v_iret E X dX4_finish_37 ⟨by rw [Nat.add_zero, h3]; rfl, rfl, h1, h2⟩
        · exact absurd c2 (by omega)
      · exact absurd c (by omega)
    induction k with
    | zero =>
      intro j s2 I2 J2 hw2 hm2 hx hk h1 h2
      have w3 := hw2.2.2.1
      have ea : a_goOn s2 = (-4, s2) := by unfold a_goOn; rw [if_pos (by omega)]
      have hcall := mm_goOn d nl s2 hw2 I2 J2 hm2
      rw [ea] at hcall
      refine v_iload_n E dX4_finish_4 rfl ?_
      refine v_if_eqN (tgt := 36) E dX4_finish_5 (by decide) (by omega) (fun c => ?_) (fun c => ?_)
      · exact absurd c (by omega)
      · refine v_aload_n E dX4_finish_8 rfl ?_
        refine v_callV E dX4_finish_9 k_X4_194 Y_X4_goOn hcall rfl rfl rfl (Nat.le_of_ble_eq_true rfl) ?_
        rintro r h' I3 J3 ⟨rfl, rfl, g1, g2⟩
        refine v_if_le (tgt := 19) E dX4_finish_12 (by decide)  (fun c2 => ?_) (fun c2 => ?_)
        · refine stop j I3 J3 ?_ (fun q hq => ⟨(g2 q hq).1.trans (hx q hq).1, (g2 q hq).2.trans (hx q hq).2⟩) ?_
          · rw [← h2]; exact g1
          · rw [← h1]; rfl
        · exact absurd (show (-4 : Int32) ≤ 0 by decide) c2
    | succ k ih =>
      intro j s2 I2 J2 hw2 hm2 hx hk h1 h2
      have hcall := mm_goOn d nl s2 hw2 I2 J2 hm2
      rw [a_fin_s] at h1 h2
      refine v_iload_n E dX4_finish_4 rfl ?_
      refine v_if_eqN (tgt := 36) E dX4_finish_5 (by decide) (by omega) (fun c => ?_) (fun c => ?_)
      · exact absurd c (by omega)
      · refine v_aload_n E dX4_finish_8 rfl ?_
        refine v_callV E dX4_finish_9 k_X4_194 Y_X4_goOn hcall rfl rfl rfl (Nat.le_of_ble_eq_true rfl) ?_
        rintro r h' I3 J3 ⟨rfl, rfl, g1, g2⟩
        have hx3 : xFr I J I3 J3 := fun q hq => ⟨(g2 q hq).1.trans (hx q hq).1, (g2 q hq).2.trans (hx q hq).2⟩
        refine v_if_le (tgt := 19) E dX4_finish_12 (by decide)  (fun c2 => ?_) (fun c2 => ?_)
        · rw [if_neg (Int32.not_lt.mpr c2)] at h1 h2
          refine stop j I3 J3 ?_ hx3 ?_
          · rw [← h2]; exact g1
          · rw [← h1]; rfl
        · have hpos : 0 < (a_goOn s2).1 := Int32.not_le.mp c2
          rw [if_pos hpos] at h1 h2
          have hnc := a_goOn_pos hw2 hpos
          refine v_iconst (v := nI 1) E dX4_finish_15 (by decide) ?_
          refine v_goto (tgt := 20) E dX4_finish_16 (by decide) ?_
          refine v_istore_n E dX4_finish_20 (by decide) ?_
          refine v_iload_n E dX4_finish_21 rfl ?_
          refine v_iload_n E dX4_finish_22 rfl ?_
          refine v_if_eqN (tgt := 30) E dX4_finish_23 (by decide) (by omega) (fun c3 => ?_) (fun c3 => ?_)
          · exact absurd c3 (by omega)
          · refine v_iconst (v := nI 1) E dX4_finish_26 (by decide) ?_
            refine v_goto (tgt := 31) E dX4_finish_27 (by decide) ?_
            refine v_iaddN E dX4_finish_31 ?_
            refine v_istore_n E dX4_finish_32 (by decide) ?_
            refine v_goto (tgt := 4) E dX4_finish_33 (by decide) ?_
            exact ih (j + 1) (a_goOn s2).2 I3 J3 (w_goOn hw2) g1 hx3 (by omega) (by
              have : j + ((a_fin k (a_goOn s2).2).1 + 1) = (a_fin 40 s).1 := h1
              omega) h2
  exact loop 40 0 s I J hw hm (fun _ _ => ⟨rfl, rfl⟩) (by omega) (by omega) rfl
