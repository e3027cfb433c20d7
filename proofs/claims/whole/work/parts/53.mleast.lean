/-! THE MODEL: the least plan -/
theorem pl_find_any (P : List Nat → Bool) (top k : Nat) (pre : List Nat) : pl_find P pl_any top (k + 1) pre = pl_go (fun m => pl_find P pl_any top k (m :: pre)) (top - pl_last pre) (pl_last pre + 1) := by
  simp only [pl_find, pl_any, if_true]
def plM (I I' : zI) : Prop := ∀ q, q ≠ 35 → q ≠ 36 → I' q = I q
theorem plM.mS {I I' : zI} (h : plM I I') : mS I I' := ⟨fun q a b => h q (by omega) (by omega), fun k _ => by rw [h 17 (by decide) (by decide)]⟩
theorem mm_isPlan (d nl : Nat) (s : zS) (hw : s_wf s) (h5 : s_np s ≤ 5) (I : zI) (J : zJ) (hm : mI s I J) (hT : tbl s [] I) (n : Nat) (h1 : 1 ≤ n) (hn5 : n ≤ 5) : z_C yX4_isPlan cX4_isPlan 5 (some .boolean) (d + 3) [.ref 17, .int (nI n)] (z_s nl) I J 0 0 (fun r h' I' J' => r = some (.int (nI (s_fd s n).isSome.toNat)) ∧ h' = z_s nl ∧ tbl s [] I' ∧ plM I I' ∧ J' = J ∧ ∀ e, s_fd s n = some e → ∀ i, i < n → I' 36 (i + 1) = nI (e.getD i 0)) := by
  have w2 := hw.2.1
  have hp0 := Nat.two_pow_pos (s_np s)
  have h32 : 2 ^ s_np s ≤ 32 := Nat.pow_le_pow_right (n := 2) (by decide) h5
  have htop : s_top s = 2 ^ s_np s - 1 := rfl
  have hbase : ∀ (pre : List Nat) (I' : zI), tbl s pre I' → tbl s [] I' := by
    intro pre
    induction pre with
    | nil => intro I' h; exact h
    | cons m pre ih => intro I' h; exact ih I' h.2.2
  refine z_C.of (by decide) (Nat.le_of_ble_eq_true rfl) fun K E X => ?_
  have D : ∀ k (pre : List Nat), pre.length + 1 + k = n → (∀ r ∈ pre, r < 2 ^ s_np s) → ∀ c t, t + c = s_top s → ∀ I', tbl s pre I' → I' 36 (pre.length + 1) = nI t → plM I I' →
      (∀ e, pl_go (fun m => pl_find (s_pl s) pl_any (s_top s) k (m :: pre)) c (t + 1) = some e → s_fd s n = some (pre.reverse ++ e)) →
      (pl_go (fun m => pl_find (s_pl s) pl_any (s_top s) k (m :: pre)) c (t + 1) = none → ∀ I2, tbl s pre I2 → plM I I2 → ∀ lr, z_V K 18 ([(0, .ref 17), (1, .int (nI n)), (2, .int (nI (s_top s))), (3, .int (nI pre.length))] ++ lr) [] (z_s nl) I2 J 0 0) →
      ∀ lr, z_V K 18 ([(0, .ref 17), (1, .int (nI n)), (2, .int (nI (s_top s))), (3, .int (nI (pre.length + 1)))] ++ lr) [] (z_s nl) I' J 0 0 := by
    intro k
    induction k with
    | zero =>
      intro pre hlen hpre c
      induction c with
      | zero =>
        intro t htc I' hT' hI' hF hs hf lr
        refine v_ls (ls2 := [(0, .ref 17), (1, .int (nI n)), (2, .int (nI (s_top s))), (3, .int (nI (pre.length + 1)))]) (by intro q hq; simp only [List.mem_cons, List.not_mem_nil, or_false] at hq; rcases hq with rfl | rfl | rfl | rfl <;> rfl) ?_
        refine v_iload_n E dX4_isPlan_18 rfl ?_
        refine v_if_leN (tgt := 95) E dX4_isPlan_19 (by decide) (by omega) (fun c1 => ?_) (fun c1 => ?_)
        · exact absurd c1 (by omega)
        · refine v_aload_n E dX4_isPlan_22 rfl ?_
          refine v_getR E f_X4_85 dX4_isPlan_23 rfl rfl rfl ?_
          refine v_iload_n E dX4_isPlan_26 rfl ?_
          refine v_dup2 E dX4_isPlan_27 rfl rfl ?_
          refine v_ialoadE E dX4_isPlan_28 rfl rfl (by omega) (by decide) hI' ?_
          refine v_iconst (v := nI 1) E dX4_isPlan_29 (by decide) ?_
          refine v_iaddN E dX4_isPlan_30 ?_
          refine v_iastore E dX4_isPlan_31 rfl rfl (by omega) (by decide) ?_
          refine v_aload_n E dX4_isPlan_32 rfl ?_
          refine v_getR E f_X4_85 dX4_isPlan_33 rfl rfl rfl ?_
          refine v_iload_n E dX4_isPlan_36 rfl ?_
          refine v_ialoadE E dX4_isPlan_37 rfl rfl (by omega) (by decide) z_u_same ?_
          refine v_iload_n E dX4_isPlan_38 rfl ?_
          refine v_icmp_leN (tgt := 48) E dX4_isPlan_39 (by decide) (by omega) (by omega) (fun c2 => ?_) (fun c2 => ?_)
          · exact absurd c2 (by omega)
          · refine v_iinc (v := nI (pre.length + 1 - 1)) E dX4_isPlan_42 rfl (q_dec1 _ (by omega)) (by decide) ?_
            refine v_goto (tgt := 18) E dX4_isPlan_45 (by decide) ?_
            exact hf rfl _ (tbl.up w2 hT' (fun j hj => z_u_col (by omega)) (fun j _ => by rw [z_u_row (by decide)])) (fun q q1 q2 => by rw [z_u_row q2]; exact hF q q1 q2) []
      | succ c ihc =>
        intro t htc I' hT' hI' hF hs hf lr
        refine v_ls (ls2 := [(0, .ref 17), (1, .int (nI n)), (2, .int (nI (s_top s))), (3, .int (nI (pre.length + 1)))]) (by intro q hq; simp only [List.mem_cons, List.not_mem_nil, or_false] at hq; rcases hq with rfl | rfl | rfl | rfl <;> rfl) ?_
        have ego : pl_go (fun m => pl_find (s_pl s) pl_any (s_top s) 0 (m :: pre)) (c + 1) (t + 1) = match pl_find (s_pl s) pl_any (s_top s) 0 ((t + 1) :: pre) with | some e => some ((t + 1) :: e) | none => pl_go (fun m => pl_find (s_pl s) pl_any (s_top s) 0 (m :: pre)) c (t + 1 + 1) := rfl
        have efd : pl_find (s_pl s) pl_any (s_top s) 0 ((t + 1) :: pre) = if s_pl s ((t + 1) :: pre) then some [] else none := rfl
        refine v_iload_n E dX4_isPlan_18 rfl ?_
        refine v_if_leN (tgt := 95) E dX4_isPlan_19 (by decide) (by omega) (fun c1 => ?_) (fun c1 => ?_)
        · exact absurd c1 (by omega)
        · refine v_aload_n E dX4_isPlan_22 rfl ?_
          refine v_getR E f_X4_85 dX4_isPlan_23 rfl rfl rfl ?_
          refine v_iload_n E dX4_isPlan_26 rfl ?_
          refine v_dup2 E dX4_isPlan_27 rfl rfl ?_
          refine v_ialoadE E dX4_isPlan_28 rfl rfl (by omega) (by decide) hI' ?_
          refine v_iconst (v := nI 1) E dX4_isPlan_29 (by decide) ?_
          refine v_iaddN E dX4_isPlan_30 ?_
          refine v_iastore E dX4_isPlan_31 rfl rfl (by omega) (by decide) ?_
          refine v_aload_n E dX4_isPlan_32 rfl ?_
          refine v_getR E f_X4_85 dX4_isPlan_33 rfl rfl rfl ?_
          refine v_iload_n E dX4_isPlan_36 rfl ?_
          refine v_ialoadE E dX4_isPlan_37 rfl rfl (by omega) (by decide) z_u_same ?_
          refine v_iload_n E dX4_isPlan_38 rfl ?_
          have hF1 : plM I (z_u I' 36 (pre.length + 1) (nI (t + 1))) := fun q q1 q2 => by rw [z_u_row q2]; exact hF q q1 q2
          have hT1 : tbl s pre (z_u I' 36 (pre.length + 1) (nI (t + 1))) := tbl.up w2 hT' (fun j hj => z_u_col (by omega)) (fun j _ => by rw [z_u_row (by decide)])
          refine v_icmp_leN (tgt := 48) E dX4_isPlan_39 (by decide) (by omega) (by omega) (fun c2 => ?_) (fun c2 => ?_)
          · refine v_aload_n E dX4_isPlan_48 rfl ?_
            refine v_iload_n E dX4_isPlan_49 rfl ?_
            refine v_callV E dX4_isPlan_50 k_X4_178 Y_X4_step (mm_step d nl s hw h5 _ J (hF1.mS.mI hm) pre (by omega) hT1 (t + 1) (by omega) hpre z_u_same) rfl rfl rfl (Nat.le_of_ble_eq_true rfl) ?_
            rintro r h' I2 J2 ⟨rfl, rfl, g1, g2, rfl⟩
            have hF2 : plM I I2 := fun q q1 q2 => by rw [g2 q q1]; exact hF1 q q1 q2
            refine v_istore E dX4_isPlan_53 (by decide) ?_
            refine v_iload_n E dX4_isPlan_55 rfl ?_
            refine v_iload_n E dX4_isPlan_56 rfl ?_
            refine v_icmp_neN (tgt := 67) E dX4_isPlan_57 (by decide) (by omega) (by omega) (fun c3 => ?_) (fun c3 => ?_)
            · exact absurd c3 (by omega)
            · refine v_iload E dX4_isPlan_60 rfl ?_
              refine v_if_eqB (tgt := 67) E dX4_isPlan_62 (by decide)  (fun c4 => ?_) (fun c4 => ?_)
              · rw [c4] at efd
                have ego2 : pl_go (fun m => pl_find (s_pl s) pl_any (s_top s) 0 (m :: pre)) (c + 1) (t + 1) = pl_go (fun m => pl_find (s_pl s) pl_any (s_top s) 0 (m :: pre)) c (t + 1 + 1) := by rw [ego, efd]; rfl
                refine v_iload_n E dX4_isPlan_67 rfl ?_
                refine v_iload_n E dX4_isPlan_68 rfl ?_
                refine v_icmp_neN (tgt := 75) E dX4_isPlan_69 (by decide) (by omega) (by omega) (fun c5 => ?_) (fun c5 => ?_)
                · exact absurd c5 (by omega)
                · refine v_goto (tgt := 18) E dX4_isPlan_72 (by decide) ?_
                  rw [ego2] at hs hf
                  exact ihc (t + 1) (by omega) I2 g1.2.2 g1.2.1 hF2 hs hf [(4, .int (nI (s_pl s ((t + 1) :: pre)).toNat))]
              · rw [c4] at efd
                have ego2 : pl_go (fun m => pl_find (s_pl s) pl_any (s_top s) 0 (m :: pre)) (c + 1) (t + 1) = some [t + 1] := by rw [ego, efd]; rfl
                have hfd := hs _ ego2
                refine v_iconst (v := nI 1) E dX4_isPlan_65 (by decide) ?_
                refine v_zret E X dX4_isPlan_66 (by first | exact Or.inl rfl | exact Or.inr rfl) ⟨by rw [hfd]; rfl, rfl, hbase _ _ g1, hF2, rfl, fun e he i hi => ?_⟩
                rw [hfd] at he
                cases he
                have := g1.get i (by simp only [List.length_cons]; omega)
                rw [List.reverse_cons] at this
                exact this
          · exact absurd c2 (by omega)
    | succ k ihk =>
      intro pre hlen hpre c
      induction c with
      | zero =>
        intro t htc I' hT' hI' hF hs hf lr
        refine v_ls (ls2 := [(0, .ref 17), (1, .int (nI n)), (2, .int (nI (s_top s))), (3, .int (nI (pre.length + 1)))]) (by intro q hq; simp only [List.mem_cons, List.not_mem_nil, or_false] at hq; rcases hq with rfl | rfl | rfl | rfl <;> rfl) ?_
        refine v_iload_n E dX4_isPlan_18 rfl ?_
        refine v_if_leN (tgt := 95) E dX4_isPlan_19 (by decide) (by omega) (fun c1 => ?_) (fun c1 => ?_)
        · exact absurd c1 (by omega)
        · refine v_aload_n E dX4_isPlan_22 rfl ?_
          refine v_getR E f_X4_85 dX4_isPlan_23 rfl rfl rfl ?_
          refine v_iload_n E dX4_isPlan_26 rfl ?_
          refine v_dup2 E dX4_isPlan_27 rfl rfl ?_
          refine v_ialoadE E dX4_isPlan_28 rfl rfl (by omega) (by decide) hI' ?_
          refine v_iconst (v := nI 1) E dX4_isPlan_29 (by decide) ?_
          refine v_iaddN E dX4_isPlan_30 ?_
          refine v_iastore E dX4_isPlan_31 rfl rfl (by omega) (by decide) ?_
          refine v_aload_n E dX4_isPlan_32 rfl ?_
          refine v_getR E f_X4_85 dX4_isPlan_33 rfl rfl rfl ?_
          refine v_iload_n E dX4_isPlan_36 rfl ?_
          refine v_ialoadE E dX4_isPlan_37 rfl rfl (by omega) (by decide) z_u_same ?_
          refine v_iload_n E dX4_isPlan_38 rfl ?_
          refine v_icmp_leN (tgt := 48) E dX4_isPlan_39 (by decide) (by omega) (by omega) (fun c2 => ?_) (fun c2 => ?_)
          · exact absurd c2 (by omega)
          · refine v_iinc (v := nI (pre.length + 1 - 1)) E dX4_isPlan_42 rfl (q_dec1 _ (by omega)) (by decide) ?_
            refine v_goto (tgt := 18) E dX4_isPlan_45 (by decide) ?_
            exact hf rfl _ (tbl.up w2 hT' (fun j hj => z_u_col (by omega)) (fun j _ => by rw [z_u_row (by decide)])) (fun q q1 q2 => by rw [z_u_row q2]; exact hF q q1 q2) []
      | succ c ihc =>
        intro t htc I' hT' hI' hF hs hf lr
        refine v_ls (ls2 := [(0, .ref 17), (1, .int (nI n)), (2, .int (nI (s_top s))), (3, .int (nI (pre.length + 1)))]) (by intro q hq; simp only [List.mem_cons, List.not_mem_nil, or_false] at hq; rcases hq with rfl | rfl | rfl | rfl <;> rfl) ?_
        have ego : pl_go (fun m => pl_find (s_pl s) pl_any (s_top s) (k + 1) (m :: pre)) (c + 1) (t + 1) = match pl_find (s_pl s) pl_any (s_top s) (k + 1) ((t + 1) :: pre) with | some e => some ((t + 1) :: e) | none => pl_go (fun m => pl_find (s_pl s) pl_any (s_top s) (k + 1) (m :: pre)) c (t + 1 + 1) := rfl
        have efd : pl_find (s_pl s) pl_any (s_top s) (k + 1) ((t + 1) :: pre) = pl_go (fun m => pl_find (s_pl s) pl_any (s_top s) k (m :: (t + 1) :: pre)) (s_top s - (t + 1)) (t + 1 + 1) := pl_find_any _ _ _ _
        refine v_iload_n E dX4_isPlan_18 rfl ?_
        refine v_if_leN (tgt := 95) E dX4_isPlan_19 (by decide) (by omega) (fun c1 => ?_) (fun c1 => ?_)
        · exact absurd c1 (by omega)
        · refine v_aload_n E dX4_isPlan_22 rfl ?_
          refine v_getR E f_X4_85 dX4_isPlan_23 rfl rfl rfl ?_
          refine v_iload_n E dX4_isPlan_26 rfl ?_
          refine v_dup2 E dX4_isPlan_27 rfl rfl ?_
          refine v_ialoadE E dX4_isPlan_28 rfl rfl (by omega) (by decide) hI' ?_
          refine v_iconst (v := nI 1) E dX4_isPlan_29 (by decide) ?_
          refine v_iaddN E dX4_isPlan_30 ?_
          refine v_iastore E dX4_isPlan_31 rfl rfl (by omega) (by decide) ?_
          refine v_aload_n E dX4_isPlan_32 rfl ?_
          refine v_getR E f_X4_85 dX4_isPlan_33 rfl rfl rfl ?_
          refine v_iload_n E dX4_isPlan_36 rfl ?_
          refine v_ialoadE E dX4_isPlan_37 rfl rfl (by omega) (by decide) z_u_same ?_
          refine v_iload_n E dX4_isPlan_38 rfl ?_
          have hF1 : plM I (z_u I' 36 (pre.length + 1) (nI (t + 1))) := fun q q1 q2 => by rw [z_u_row q2]; exact hF q q1 q2
          have hT1 : tbl s pre (z_u I' 36 (pre.length + 1) (nI (t + 1))) := tbl.up w2 hT' (fun j hj => z_u_col (by omega)) (fun j _ => by rw [z_u_row (by decide)])
          refine v_icmp_leN (tgt := 48) E dX4_isPlan_39 (by decide) (by omega) (by omega) (fun c2 => ?_) (fun c2 => ?_)
          · refine v_aload_n E dX4_isPlan_48 rfl ?_
            refine v_iload_n E dX4_isPlan_49 rfl ?_
            refine v_callV E dX4_isPlan_50 k_X4_178 Y_X4_step (mm_step d nl s hw h5 _ J (hF1.mS.mI hm) pre (by omega) hT1 (t + 1) (by omega) hpre z_u_same) rfl rfl rfl (Nat.le_of_ble_eq_true rfl) ?_
            rintro r h' I2 J2 ⟨rfl, rfl, g1, g2, rfl⟩
            have hF2 : plM I I2 := fun q q1 q2 => by rw [g2 q q1]; exact hF1 q q1 q2
            refine v_istore E dX4_isPlan_53 (by decide) ?_
            refine v_iload_n E dX4_isPlan_55 rfl ?_
            refine v_iload_n E dX4_isPlan_56 rfl ?_
            refine v_icmp_neN (tgt := 67) E dX4_isPlan_57 (by decide) (by omega) (by omega) (fun c3 => ?_) (fun c3 => ?_)
            · refine v_iload_n E dX4_isPlan_67 rfl ?_
              refine v_iload_n E dX4_isPlan_68 rfl ?_
              refine v_icmp_neN (tgt := 75) E dX4_isPlan_69 (by decide) (by omega) (by omega) (fun c5 => ?_) (fun c5 => ?_)
              · refine v_aload_n E dX4_isPlan_75 rfl ?_
                refine v_getR E f_X4_85 dX4_isPlan_76 rfl rfl rfl ?_
                refine v_iload_n E dX4_isPlan_79 rfl ?_
                refine v_iconst (v := nI 1) E dX4_isPlan_80 (by decide) ?_
                refine v_iaddN E dX4_isPlan_81 ?_
                refine v_aload_n E dX4_isPlan_82 rfl ?_
                refine v_getR E f_X4_85 dX4_isPlan_83 rfl rfl rfl ?_
                refine v_iload_n E dX4_isPlan_86 rfl ?_
                refine v_ialoadE E dX4_isPlan_87 rfl rfl (by omega) (by decide) g1.2.1 ?_
                refine v_iastore E dX4_isPlan_88 rfl rfl (by omega) (by decide) ?_
                refine v_inc E dX4_isPlan_89 rfl (by decide) ?_
                refine v_goto (tgt := 18) E dX4_isPlan_92 (by decide) ?_
                have hlen2 : ((t + 1) :: pre).length = pre.length + 1 := rfl
                refine ihk ((t + 1) :: pre) (by rw [hlen2]; omega) (fun r hr => (List.mem_cons.mp hr).elim (fun z => by rw [z]; omega) (hpre r)) (s_top s - (t + 1)) (t + 1) (by omega) _ (tbl.up w2 g1 (fun j hj => z_u_col (by rw [hlen2] at hj; omega)) (fun j _ => by rw [z_u_row (by decide)])) z_u_same (fun q q1 q2 => by rw [z_u_row q2]; exact hF2 q q1 q2) ?_ ?_ [(4, .int (nI (s_pl s ((t + 1) :: pre)).toNat))]
                · intro e he
                  rw [← efd] at he
                  have := hs ((t + 1) :: e) (by rw [ego, he])
                  rw [this, List.reverse_cons, List.append_assoc]
                  rfl
                · intro he I3 hT3 hF3 lr3
                  rw [← efd] at he
                  have ego2 : pl_go (fun m => pl_find (s_pl s) pl_any (s_top s) (k + 1) (m :: pre)) (c + 1) (t + 1) = pl_go (fun m => pl_find (s_pl s) pl_any (s_top s) (k + 1) (m :: pre)) c (t + 1 + 1) := by rw [ego, he]
                  rw [ego2] at hs hf
                  exact ihc (t + 1) (by omega) I3 hT3.2.2 hT3.2.1 hF3 hs hf lr3
              · exact absurd c5 (by omega)
            · exact absurd c3 (by omega)
          · exact absurd c2 (by omega)
  refine v_iconst (v := nI 1) E dX4_isPlan_0 (by decide) ?_
  refine v_aload_n E dX4_isPlan_1 rfl ?_
  refine v_getIE E f_X4_7 dX4_isPlan_2 rfl rfl hm.1 ?_
  refine v_ishlN E dX4_isPlan_5 (by omega) ?_
  refine v_p2 ?_
  refine v_iconst (v := nI 1) E dX4_isPlan_6 (by decide) ?_
  refine v_isubN E dX4_isPlan_7 (by omega) ?_
  refine v_istore_n E dX4_isPlan_8 (by decide) ?_
  refine v_iconst (v := nI 1) E dX4_isPlan_9 (by decide) ?_
  refine v_istore_n E dX4_isPlan_10 (by decide) ?_
  refine v_aload_n E dX4_isPlan_11 rfl ?_
  refine v_getR E f_X4_85 dX4_isPlan_12 rfl rfl rfl ?_
  refine v_iconst (v := nI 1) E dX4_isPlan_15 (by decide) ?_
  refine v_iconst (v := nI 0) E dX4_isPlan_16 (by decide) ?_
  refine v_iastore E dX4_isPlan_17 rfl rfl (by decide) (by decide) ?_
  have efd0 : s_fd s n = pl_go (fun m => pl_find (s_pl s) pl_any (s_top s) (n - 1) (m :: [])) (s_top s) 1 := by
    unfold s_fd
    rw [show n = (n - 1) + 1 by omega, pl_find_any]
    rfl
  refine D (n - 1) [] (by simp only [List.length_nil]; omega) (fun r h => absurd h List.not_mem_nil) (s_top s) 0 (by omega) _ ?_ z_u_same (fun q q1 q2 => z_u_row q2) ?_ ?_ []
  · exact tbl.up (pre := []) w2 hT (fun j hj => z_u_col (by simp only [List.length_nil] at hj; omega)) (fun j _ => by rw [z_u_row (by decide)])
  · intro e he
    rw [efd0]
    exact he
  · intro he I2 hT2 hF2 lr
    rw [← efd0] at he
    refine v_ls (ls2 := [(0, .ref 17), (1, .int (nI n)), (2, .int (nI (s_top s))), (3, .int (nI 0))]) (by intro q hq; simp only [List.mem_cons, List.not_mem_nil, or_false] at hq; rcases hq with rfl | rfl | rfl | rfl <;> rfl) ?_
    refine v_iload_n E dX4_isPlan_18 rfl ?_
    refine v_if_leN (tgt := 95) E dX4_isPlan_19 (by decide) (by omega) (fun c1 => ?_) (fun c1 => ?_)
    · refine v_iconst (v := nI 0) E dX4_isPlan_95 (by decide) ?_
      exact v_zret E X dX4_isPlan_96 (by first | exact Or.inl rfl | exact Or.inr rfl) ⟨by rw [he]; rfl, rfl, hT2, hF2, rfl, fun e h => by rw [he] at h; cases h⟩
    · exact absurd c1 (by omega)
theorem mm_planSize (d nl : Nat) (s : zS) (hw : s_wf s) (h5 : s_np s ≤ 5) (I : zI) (J : zJ) (hm : mI s I J) : z_C yX4_planSize cX4_planSize 2 (some .int) (d + 4) [.ref 17] (z_s nl) I J 0 0 (fun r h' I' J' => r = some (.int (nI (r_sz s))) ∧ h' = z_s nl ∧ mS I I' ∧ J' = J ∧ ∀ i, i < r_sz s → I' 36 (i + 1) = nI ((r_row s).getD i 0)) := by
  obtain ⟨e0, he0⟩ := s_fd_all hw
  refine z_C.of (by decide) (Nat.le_of_ble_eq_true rfl) fun K E X => ?_
  refine v_aload_n E dX4_planSize_0 rfl ?_
  refine v_callV E dX4_planSize_1 k_X4_181 Y_X4_begin (mm_begin d nl s hw h5 I J hm) rfl rfl rfl (Nat.le_of_ble_eq_true rfl) ?_
  rintro r h' I1 J1 ⟨rfl, rfl, g1, hS, rfl⟩
  have efd : s_fd s 0 = if s_pl s [] then some [] else none := rfl
  refine v_if_eqB (tgt := 9) E dX4_planSize_4 (by decide)  (fun c => ?_) (fun c => ?_)
  · rw [c] at efd
    have efd : s_fd s 0 = none := efd
    refine v_iconst (v := nI 1) E dX4_planSize_9 (by decide) ?_
    refine v_istore_n E dX4_planSize_10 (by decide) ?_
    have loop : ∀ cc k, k + cc = s_np s → 1 ≤ k → (∀ j, j < k → s_fd s j = none) → ∀ I2, tbl s [] I2 → mS I I2 → z_V K 11 [(0, .ref 17), (1, .int (nI k))] [] (z_s nl) I2 J1 0 0 := by
      intro cc
      have main : ∀ k, k ≤ s_np s → 1 ≤ k → (∀ j, j < k → s_fd s j = none) → ∀ I2, tbl s [] I2 → mS I I2 → (s_fd s k = none → ∀ I3, tbl s [] I3 → mS I I3 → z_V K 25 [(0, .ref 17), (1, .int (nI k))] [] (z_s nl) I3 J1 0 0) → z_V K 11 [(0, .ref 17), (1, .int (nI k))] [] (z_s nl) I2 J1 0 0 := by
        intro k hk hk1 hno I2 h2 h3 go
        refine v_iload_n E dX4_planSize_11 rfl ?_
        refine v_bipush (v := nI 6) E dX4_planSize_12 (by decide) ?_
        refine v_icmp_geN (tgt := 31) E dX4_planSize_14 (by decide) (by omega) (by omega) (fun c2 => ?_) (fun c2 => ?_)
        · exact absurd c2 (by omega)
        · refine v_aload_n E dX4_planSize_17 rfl ?_
          refine v_iload_n E dX4_planSize_18 rfl ?_
          refine v_callV E dX4_planSize_19 k_X4_185 Y_X4_isPlan (mm_isPlan d nl s hw h5 I2 J1 (h3.mI hm) h2 k hk1 (by omega)) rfl rfl rfl (Nat.le_of_ble_eq_true rfl) ?_
          rintro r h' I3 J3 ⟨rfl, rfl, p1, p2, rfl, p3⟩
          refine v_if_neB (tgt := 31) E dX4_planSize_22 (by decide)  (fun c3 => ?_) (fun c3 => ?_)
          · refine v_iload_n E dX4_planSize_31 rfl ?_
            cases hf : s_fd s k with
            | none => rw [hf] at c3; cases c3
            | some e =>
              obtain ⟨q1, q2⟩ := r_sz_at hk hno hf
              exact v_iret E X dX4_planSize_32 ⟨by rw [q1], rfl, h3.tr p2.mS, rfl, fun i hi => by rw [q2]; exact p3 e hf i (by omega)⟩
          · refine go ?_ I3 p1 (h3.tr p2.mS)
            cases hf : s_fd s k with
            | none => rfl
            | some e => rw [hf] at c3; cases c3
      induction cc with
      | zero =>
        intro k hk hk1 hno I2 h2 h3
        refine main k (by omega) hk1 hno I2 h2 h3 (fun hn => ?_)
        have : k = s_np s := by omega
        rw [this, he0] at hn
        cases hn
      | succ cc ih =>
        intro k hk hk1 hno I2 h2 h3
        refine main k (by omega) hk1 hno I2 h2 h3 (fun hn I3 h4 h6 => ?_)
        refine v_inc E dX4_planSize_25 rfl (by decide) ?_
        refine v_goto (tgt := 11) E dX4_planSize_28 (by decide) ?_
        exact ih (k + 1) (by omega) (by omega) (fun j hj => by
          by_cases e : j = k
          · subst e; exact hn
          · exact hno j (by omega)) I3 h4 h6
    have hnp : 1 ≤ s_np s := by
      rcases Nat.eq_zero_or_pos (s_np s) with z | z
      · rw [z, efd] at he0; cases he0
      · exact z
    exact loop (s_np s - 1) 1 (by omega) (by omega) (fun j hj => by
      have : j = 0 := by omega
      rw [this]
      exact efd) I1 g1 hS
  · rw [c] at efd
    have efd : s_fd s 0 = some [] := efd
    obtain ⟨q1, q2⟩ := r_sz_at (Nat.zero_le _) (fun j hj => absurd hj (Nat.not_lt_zero j)) efd
    refine v_iconst (v := nI 0) E dX4_planSize_7 (by decide) ?_
    exact v_iret E X dX4_planSize_8 ⟨by rw [q1], rfl, hS, rfl, fun i hi => absurd hi (by omega)⟩
theorem mm_least (d nl : Nat) (s : zS) (hw : s_wf s) (I : zI) (J : zJ) (hm : mI s I J) : z_C yX4_least cX4_least 1 (some .int) (d + 5) [.ref 17] (z_s nl) I J 0 0 (mR (.int (r_least s)) nl I J) := by
  have w1 := hw.1
  refine z_C.of (by decide) (Nat.le_of_ble_eq_true rfl) fun K E X => ?_
  refine v_aload_n E dX4_least_0 rfl ?_
  refine v_getIE E f_X4_7 dX4_least_1 rfl rfl hm.1 ?_
  refine v_iconst (v := nI 5) E dX4_least_4 (by decide) ?_
  refine v_icmp_leN (tgt := 13) E dX4_least_5 (by decide) (by omega) (by omega) (fun c => ?_) (fun c => ?_)
  · refine v_aload_n E dX4_least_13 rfl ?_
    refine v_callV E dX4_least_14 k_X4_188 Y_X4_planSize (mm_planSize d nl s hw c I J hm) rfl rfl rfl (Nat.le_of_ble_eq_true rfl) ?_
    rintro r h' I1 J1 ⟨rfl, rfl, hS, rfl, _⟩
    exact v_iret E X dX4_least_17 (mR.e (by unfold r_least; rw [if_pos c]) hS)
  · refine v_bipush (v := -5) E dX4_least_8 (by decide) ?_
    refine v_goto (tgt := 17) E dX4_least_10 (by decide) ?_
    exact v_iret E X dX4_least_17 (mR.e (by unfold r_least; rw [if_neg (by omega)]) (mS.rf I))
theorem mm_planned (d nl : Nat) (s : zS) (hw : s_wf s) (I : zI) (J : zJ) (hm : mI s I J) (x : Int32) : z_C yX4_planned cX4_planned 3 (some .int) (d + 5) [.ref 17, .int x] (z_s nl) I J 0 0 (mR (.int (r_planned s x)) nl I J) := by
  have w1 := hw.1
  have hsz := r_sz_le hw
  refine z_C.of (by decide) (Nat.le_of_ble_eq_true rfl) fun K E X => ?_
  have no : r_planned s x = -1 → z_V K 12 [(0, .ref 17), (1, .int x)] [] (z_s nl) I J 0 0 := by
    intro e
    refine v_iconst (v := -1) E dX4_planned_12 (by decide) ?_
    exact v_iret E X dX4_planned_13 (mR.e e.symm (mS.rf I))
  refine v_aload_n E dX4_planned_0 rfl ?_
  refine v_getIE E f_X4_7 dX4_planned_1 rfl rfl hm.1 ?_
  refine v_iconst (v := nI 5) E dX4_planned_4 (by decide) ?_
  refine v_icmp_gtN (tgt := 12) E dX4_planned_5 (by decide) (by omega) (by omega) (fun c => ?_) (fun c => ?_)
  · exact no (by unfold r_planned; rw [if_neg (by omega)])
  · have hr : r_planned s x = if z_isx x (r_sz s) then nI ((r_row s).getD x.toNatClampNeg 0) else -1 := by unfold r_planned; rw [if_pos c]
    refine v_iload_n E dX4_planned_8 rfl ?_
    refine v_if_ge (tgt := 14) E dX4_planned_9 (by decide)  (fun c1 => ?_) (fun c1 => ?_)
    · obtain ⟨a, ha, rfl⟩ := z_nonneg (x := x) (Int32.not_lt.mpr c1)
      rw [z_isx_nI ha (by omega), nI_clamp ha] at hr
      refine v_aload_n E dX4_planned_14 rfl ?_
      refine v_callV E dX4_planned_15 k_X4_188 Y_X4_planSize (mm_planSize d nl s hw c I J hm) rfl rfl rfl (Nat.le_of_ble_eq_true rfl) ?_
      rintro r h' I1 J1 ⟨rfl, rfl, hS, rfl, hrow⟩
      refine v_istore_n E dX4_planned_18 (by decide) ?_
      refine v_iload_n E dX4_planned_19 rfl ?_
      refine v_iload_n E dX4_planned_20 rfl ?_
      refine v_icmp_geN (tgt := 35) E dX4_planned_21 (by decide) (by omega) (by omega) (fun c2 => ?_) (fun c2 => ?_)
      · refine v_iconst (v := -1) E dX4_planned_35 (by decide) ?_
        exact v_iret E X dX4_planned_36 (mR.e (by rw [hr, decide_eq_false (by omega)]; rfl) hS)
      · refine v_aload_n E dX4_planned_24 rfl ?_
        refine v_getR E f_X4_85 dX4_planned_25 rfl rfl rfl ?_
        refine v_iload_n E dX4_planned_28 rfl ?_
        refine v_iconst (v := nI 1) E dX4_planned_29 (by decide) ?_
        refine v_iaddN E dX4_planned_30 ?_
        refine v_ialoadE E dX4_planned_31 rfl rfl (by omega) (by decide) (hrow a c2) ?_
        refine v_goto (tgt := 36) E dX4_planned_32 (by decide) ?_
        exact v_iret E X dX4_planned_36 (mR.e (by rw [hr, decide_eq_true c2]; rfl) hS)
    · exact no (by
        rw [hr]
        have : z_isx x (r_sz s) = false := decide_eq_false (fun z => c1 (Int32.not_lt.mp z.1))
        rw [this]
        rfl)
