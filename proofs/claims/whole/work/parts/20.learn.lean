/-! OneCall$Knowledge.learn -/
theorem q_top_lt {g : Nat} (h0 : g ≠ 0) (h : g < 1024) : q_top g < 1024 := Nat.lt_of_le_of_lt (Nat.log2_self_le h0) h
theorem m_learn (d : Nat) (h : zH) (I : zI) (J : zJ) (a : Nat) (hk : zKn h a) (f b : Nat → Nat) (rk : Nat) (hf : kI I a f rk) (hl : ∀ p, p < 10 → f p < 1024) (hb : kJ J a b) (m : Nat) (hm : m < 1024) (row : Nat) : z_C yX0_learn cX0_learn 9 (some .boolean) (d + 2) [.ref a, .int (nI m), .long (lN row)] h I J 0 0 (fun r h' I' J' => r = some (.int (nI (decide (l_in f m ≠ 0)).toNat)) ∧ h' = h ∧ kI I' a (l_nf f m) (rk + (decide (l_in f m ≠ 0)).toNat) ∧ kJ J' a (l_nb f b m row) ∧ kFr a I J I' J') := by
  have hg := l_in_lt (m := m) hl
  refine z_C.of (by decide) (Nat.le_of_ble_eq_true rfl) fun K E X => ?_
  refine v_aload_n E dX0_learn_0 rfl ?_
  refine v_iload_n E dX0_learn_1 rfl ?_
  refine v_callV1 E dX0_learn_2 k_X0_33 Y_X0_restOf (m_restOf d h I J a hk f hf.1 m hm) hk.1 rfl rfl (Nat.le_of_ble_eq_true rfl) ?_
  refine v_istore E dX0_learn_5 (by decide) ?_
  refine v_iload E dX0_learn_7 rfl ?_
  refine v_if_neN (tgt := 14) E dX0_learn_9 (by decide) (by omega) (fun c => ?_) (fun c => ?_)
  · refine v_aload_n E dX0_learn_14 rfl ?_
    refine v_iload_n E dX0_learn_15 rfl ?_
    refine v_callV1 E dX0_learn_16 k_X0_37 Y_X0_rowsOf (m_rowsOf d h I J a hk b hb m hm) hk.1 rfl rfl (Nat.le_of_ble_eq_true rfl) ?_
    have hne : l_in f m ≠ 0 := by omega
    have ht := q_top_lt hne hg
    refine v_lload_n E dX0_learn_19 rfl ?_
    refine v_lxorN E dX0_learn_20 ?_
    refine v_lstore E dX0_learn_21 (by decide) ?_
    refine v_iload E dX0_learn_23 rfl ?_
    refine v_callS1 E dX0_learn_25 k_X0_41 Y_J6_highestOneBit_0f7a4 (m_highestOneBit d h I J (l_in f m) hg c) rfl rfl (Nat.le_of_ble_eq_true rfl) ?_
    refine v_istore E dX0_learn_28 (by decide) ?_
    refine v_iconst (v := nI 0) E dX0_learn_30 (by decide) ?_
    refine v_istore E dX0_learn_31 (by decide) ?_
    have loop : ∀ k, k ≤ 10 → ∀ (I' : zI) (J' : zJ), (∀ p, p < k → I' (a + 1) p = nI (l_kf f m p)) → (∀ p, k ≤ p → p < 10 → I' (a + 1) p = nI (f p)) → (∀ p, p < k → J' (a + 2) p = lN (l_kb f b m row p)) → (∀ p, k ≤ p → p < 10 → J' (a + 2) p = lN (b p)) → (∀ q, q ≠ a + 1 → I' q = I q) → (∀ q, q ≠ a + 2 → J' q = J q) → z_V K 33 [(0, .ref a), (1, .int (nI m)), (2, .long (lN row)), (4, .int (nI (l_in f m))), (5, .long (lN (l_in b m ^^^ row))), (7, .int (nI (q_top (l_in f m)))), (8, .int (nI k))] [] h I' J' 0 0 := by
      refine z_for 10 ?_ (fun k hk1 ih => ?_)
      · intro I' J' h1 h2 h3 h4 h5 h6
        refine v_iload E dX0_learn_33 rfl ?_
        refine v_bipush (v := nI 10) E dX0_learn_35 (by decide) ?_
        refine v_icmp_geN (tgt := 83) E dX0_learn_37 (by decide) (by omega) (by omega) (fun c1 => ?_) (fun c1 => ?_)
        · refine v_aload_n E dX0_learn_83 rfl ?_
          refine v_dup E dX0_learn_84 rfl ?_
          refine v_getIE E f_X0_25 dX0_learn_85 hk.1 rfl (show I' a 2 = nI rk by rw [h5 a (by omega)]; exact hf.2) ?_
          refine v_iconst (v := nI 1) E dX0_learn_88 (by decide) ?_
          refine v_iaddN E dX0_learn_89 ?_
          refine v_putI E f_X0_25 dX0_learn_90 hk.1 rfl rfl rfl (by decide) ?_
          refine v_iconst (v := nI 1) E dX0_learn_93 (by decide) ?_
          refine v_zret E X dX0_learn_94 (by first | exact Or.inl rfl | exact Or.inr rfl) ⟨by rw [decide_eq_true hne]; rfl, rfl, ⟨fun p hp => ?_, ?_⟩, fun p hp => ?_, fun q q1 q2 => ?_, h6⟩
          · rw [z_u_row (by omega), h1 p hp]
            unfold l_nf
            rw [if_neg hne]
          · rw [z_u_same, decide_eq_true hne]
            rfl
          · rw [h3 p hp]
            unfold l_nb
            rw [if_neg hne]
          · rw [z_u_row q1, h5 q q2]
        · exact absurd c1 (by omega)
      · intro I' J' h1 h2 h3 h4 h5 h6
        have hlk := hl k hk1
        refine v_iload E dX0_learn_33 rfl ?_
        refine v_bipush (v := nI 10) E dX0_learn_35 (by decide) ?_
        refine v_icmp_geN (tgt := 83) E dX0_learn_37 (by decide) (by omega) (by omega) (fun c1 => ?_) (fun c1 => ?_)
        · exact absurd c1 (by omega)
        · refine v_aload_n E dX0_learn_40 rfl ?_
          refine v_getR E f_X0_9 dX0_learn_41 hk.1 rfl hk.2.2.2.1 ?_
          refine v_iload E dX0_learn_44 rfl ?_
          refine v_ialoadE E dX0_learn_46 hk.2.1 rfl hk1 (by decide) (h2 k (Nat.le_refl _) hk1) ?_
          refine v_iload E dX0_learn_47 rfl ?_
          refine v_iandN E dX0_learn_49 ?_
          have hal := q_and_lt (k := 10) (b := q_top (l_in f m)) hlk
          refine v_if_eqN (tgt := 77) E dX0_learn_50 (by decide) (by omega) (fun c2 => ?_) (fun c2 => ?_)
          · refine v_inc E dX0_learn_77 rfl (by decide) ?_
            refine v_goto (tgt := 33) E dX0_learn_80 (by decide) ?_
            refine ih I' J' (fun p hp => ?_) (fun p p1 p2 => h2 p (by omega) p2) (fun p hp => ?_) (fun p p1 p2 => h4 p (by omega) p2) h5 h6
            · by_cases e : p = k
              · subst e
                rw [h2 p (Nat.le_refl _) hk1]
                unfold l_kf
                rw [if_pos c2]
              · exact h1 p (by omega)
            · by_cases e : p = k
              · subst e
                rw [h4 p (Nat.le_refl _) hk1]
                unfold l_kb
                rw [if_pos c2]
              · exact h3 p (by omega)
          · refine v_aload_n E dX0_learn_53 rfl ?_
            refine v_getR E f_X0_9 dX0_learn_54 hk.1 rfl hk.2.2.2.1 ?_
            refine v_iload E dX0_learn_57 rfl ?_
            refine v_dup2 E dX0_learn_59 rfl rfl ?_
            refine v_ialoadE E dX0_learn_60 hk.2.1 rfl hk1 (by decide) (h2 k (Nat.le_refl _) hk1) ?_
            refine v_iload E dX0_learn_61 rfl ?_
            refine v_ixorN E dX0_learn_63 ?_
            refine v_iastore E dX0_learn_64 hk.2.1 rfl hk1 (by decide) ?_
            refine v_aload_n E dX0_learn_65 rfl ?_
            refine v_getR E f_X0_15 dX0_learn_66 hk.1 rfl hk.2.2.2.2 ?_
            refine v_iload E dX0_learn_69 rfl ?_
            refine v_dup2 E dX0_learn_71 rfl rfl ?_
            refine v_laloadE E dX0_learn_72 hk.2.2.1 rfl hk1 (by decide) (h4 k (Nat.le_refl _) hk1) ?_
            refine v_lload E dX0_learn_73 rfl ?_
            refine v_lxorN E dX0_learn_75 ?_
            refine v_lastore E dX0_learn_76 hk.2.2.1 rfl hk1 (by decide) ?_
            refine v_inc E dX0_learn_77 rfl (by decide) ?_
            refine v_goto (tgt := 33) E dX0_learn_80 (by decide) ?_
            have hkf : l_kf f m k = f k ^^^ l_in f m := by unfold l_kf; rw [if_neg (by omega)]
            have hkb : l_kb f b m row k = b k ^^^ (l_in b m ^^^ row) := by unfold l_kb; rw [if_neg (by omega)]
            refine ih _ _ (fun p hp => ?_) (fun p p1 p2 => ?_) (fun p hp => ?_) (fun p p1 p2 => ?_) (fun q hq => ?_) (fun q hq => ?_)
            · by_cases e : p = k
              · subst e
                rw [z_u_same, hkf]
              · rw [z_u_col e]
                exact h1 p (by omega)
            · rw [z_u_col (by omega)]
              exact h2 p (by omega) p2
            · by_cases e : p = k
              · subst e
                rw [z_u_same, hkb]
              · rw [z_u_col e]
                exact h3 p (by omega)
            · rw [z_u_col (by omega)]
              exact h4 p (by omega) p2
            · rw [z_u_row hq]
              exact h5 q hq
            · rw [z_u_row hq]
              exact h6 q hq
    exact loop 0 (by omega) I J (fun p hp => absurd hp (by omega)) (fun p _ hp => hf.1 p hp) (fun p hp => absurd hp (by omega)) (fun p _ hp => hb p hp) (fun _ _ => rfl) (fun _ _ => rfl)
  · refine v_iconst (v := nI 0) E dX0_learn_12 (by decide) ?_
    have hd : decide (l_in f m ≠ 0) = false := decide_eq_false (by omega)
    refine v_zret E X dX0_learn_13 (by first | exact Or.inl rfl | exact Or.inr rfl) ⟨by rw [hd]; rfl, rfl, ⟨fun p hp => ?_, ?_⟩, fun p hp => ?_, fun _ _ _ => rfl, fun _ _ => rfl⟩
    · rw [hf.1 p hp]
      unfold l_nf
      rw [if_pos c]
    · rw [hf.2, hd]
      rfl
    · rw [hb p hp]
      unfold l_nb
      rw [if_pos c]
