/-! OneCall$Knowledge -/
def zKn (h : zH) (a : Nat) : Prop := (h.2.1 a).1 = 1 ∧ h.2.1 (a + 1) = (10, 10) ∧ h.2.1 (a + 2) = (11, 10) ∧ h.2.2 a 0 = some (a + 1) ∧ h.2.2 a 1 = some (a + 2)
def kI (I : zI) (a : Nat) (f : Nat → Nat) (rk : Nat) : Prop := (∀ p, p < 10 → I (a + 1) p = nI (f p)) ∧ I a 2 = nI rk
def kJ (J : zJ) (a : Nat) (b : Nat → Nat) : Prop := ∀ p, p < 10 → J (a + 2) p = lN (b p)
theorem m_restOf (d : Nat) (h : zH) (I : zI) (J : zJ) (a : Nat) (hk : zKn h a) (f : Nat → Nat) (hf : ∀ p, p < 10 → I (a + 1) p = nI (f p)) (m : Nat) (hm : m < 1024) : z_C yX0_restOf cX0_restOf 4 (some .int) (d + 1) [.ref a, .int (nI m)] h I J 0 0 (z_q (some (.int (nI (l_in f m)))) h I J) := by
  refine z_C.of (by decide) (Nat.le_of_ble_eq_true rfl) fun K E X => ?_
  refine v_iconst (v := nI 0) E dX0_restOf_0 (by decide) ?_
  refine v_istore_n E dX0_restOf_1 (by decide) ?_
  refine v_iconst (v := nI 0) E dX0_restOf_2 (by decide) ?_
  refine v_istore_n E dX0_restOf_3 (by decide) ?_
  have loop : ∀ k, k ≤ 10 → z_V K 4 [(0, .ref a), (1, .int (nI m)), (2, .int (nI (l_to f m k))), (3, .int (nI k))] [] h I J 0 0 := by
    refine z_for 10 ?_ (fun k hk1 ih => ?_)
    · refine v_iload_n E dX0_restOf_4 rfl ?_
      refine v_bipush (v := nI 10) E dX0_restOf_5 (by decide) ?_
      refine v_icmp_geN (tgt := 33) E dX0_restOf_7 (by decide) (by omega) (by omega) (fun c => ?_) (fun c => ?_)
      · refine v_iload_n E dX0_restOf_33 rfl ?_
        exact v_iret E X dX0_restOf_34 z_qq
      · exact absurd c (by omega)
    · refine v_iload_n E dX0_restOf_4 rfl ?_
      refine v_bipush (v := nI 10) E dX0_restOf_5 (by decide) ?_
      refine v_icmp_geN (tgt := 33) E dX0_restOf_7 (by decide) (by omega) (by omega) (fun c => ?_) (fun c => ?_)
      · exact absurd c (by omega)
      · refine v_iload_n E dX0_restOf_10 rfl ?_
        refine v_iload_n E dX0_restOf_11 rfl ?_
        refine v_callN1 E dX0_restOf_12 k_nK Y_X3_isIn (m_isIn d h I J k m (by omega) (by omega)) rfl rfl (Nat.le_of_ble_eq_true rfl) ?_
        have e : l_to f m (k + 1) = if m.testBit k then l_to f m k ^^^ f k else l_to f m k := rfl
        refine v_if_eqB (tgt := 27) E dX0_restOf_15 (by decide)  (fun c2 => ?_) (fun c2 => ?_)
        · rw [c2] at e
          refine v_inc E dX0_restOf_27 rfl (by decide) ?_
          refine v_goto (tgt := 4) E dX0_restOf_30 (by decide) ?_
          rw [e] at ih
          exact ih
        · rw [c2] at e
          refine v_iload_n E dX0_restOf_18 rfl ?_
          refine v_aload_n E dX0_restOf_19 rfl ?_
          refine v_getR E f_X0_9 dX0_restOf_20 hk.1 rfl hk.2.2.2.1 ?_
          refine v_iload_n E dX0_restOf_23 rfl ?_
          refine v_ialoadE E dX0_restOf_24 hk.2.1 rfl hk1 (by decide) (hf k hk1) ?_
          refine v_ixorN E dX0_restOf_25 ?_
          refine v_istore_n E dX0_restOf_26 (by decide) ?_
          refine v_inc E dX0_restOf_27 rfl (by decide) ?_
          refine v_goto (tgt := 4) E dX0_restOf_30 (by decide) ?_
          rw [e] at ih
          exact ih
  exact loop 0 (by omega)
theorem m_rowsOf (d : Nat) (h : zH) (I : zI) (J : zJ) (a : Nat) (hk : zKn h a) (b : Nat → Nat) (hb : kJ J a b) (m : Nat) (hm : m < 1024) : z_C yX0_rowsOf cX0_rowsOf 5 (some .long) (d + 1) [.ref a, .int (nI m)] h I J 0 0 (z_q (some (.long (lN (l_in b m)))) h I J) := by
  refine z_C.of (by decide) (Nat.le_of_ble_eq_true rfl) fun K E X => ?_
  refine v_lconst (v := lN 0) E dX0_rowsOf_0 (by decide) ?_
  refine v_lstore_n E dX0_rowsOf_1 (by decide) ?_
  refine v_iconst (v := nI 0) E dX0_rowsOf_2 (by decide) ?_
  refine v_istore E dX0_rowsOf_3 (by decide) ?_
  have loop : ∀ k, k ≤ 10 → z_V K 5 [(0, .ref a), (1, .int (nI m)), (2, .long (lN (l_to b m k))), (4, .int (nI k))] [] h I J 0 0 := by
    refine z_for 10 ?_ (fun k hk1 ih => ?_)
    · refine v_iload E dX0_rowsOf_5 rfl ?_
      refine v_bipush (v := nI 10) E dX0_rowsOf_7 (by decide) ?_
      refine v_icmp_geN (tgt := 37) E dX0_rowsOf_9 (by decide) (by omega) (by omega) (fun c => ?_) (fun c => ?_)
      · refine v_lload_n E dX0_rowsOf_37 rfl ?_
        exact v_lret E X dX0_rowsOf_38 z_qq
      · exact absurd c (by omega)
    · refine v_iload E dX0_rowsOf_5 rfl ?_
      refine v_bipush (v := nI 10) E dX0_rowsOf_7 (by decide) ?_
      refine v_icmp_geN (tgt := 37) E dX0_rowsOf_9 (by decide) (by omega) (by omega) (fun c => ?_) (fun c => ?_)
      · exact absurd c (by omega)
      · refine v_iload E dX0_rowsOf_12 rfl ?_
        refine v_iload_n E dX0_rowsOf_14 rfl ?_
        refine v_callN1 E dX0_rowsOf_15 k_nK Y_X3_isIn (m_isIn d h I J k m (by omega) (by omega)) rfl rfl (Nat.le_of_ble_eq_true rfl) ?_
        have e : l_to b m (k + 1) = if m.testBit k then l_to b m k ^^^ b k else l_to b m k := rfl
        refine v_if_eqB (tgt := 31) E dX0_rowsOf_18 (by decide)  (fun c2 => ?_) (fun c2 => ?_)
        · rw [c2] at e
          refine v_inc E dX0_rowsOf_31 rfl (by decide) ?_
          refine v_goto (tgt := 5) E dX0_rowsOf_34 (by decide) ?_
          rw [e] at ih
          exact ih
        · rw [c2] at e
          refine v_lload_n E dX0_rowsOf_21 rfl ?_
          refine v_aload_n E dX0_rowsOf_22 rfl ?_
          refine v_getR E f_X0_15 dX0_rowsOf_23 hk.1 rfl hk.2.2.2.2 ?_
          refine v_iload E dX0_rowsOf_26 rfl ?_
          refine v_laloadE E dX0_rowsOf_28 hk.2.2.1 rfl hk1 (by decide) (hb k hk1) ?_
          refine v_lxorN E dX0_rowsOf_29 ?_
          refine v_lstore_n E dX0_rowsOf_30 (by decide) ?_
          refine v_inc E dX0_rowsOf_31 rfl (by decide) ?_
          refine v_goto (tgt := 5) E dX0_rowsOf_34 (by decide) ?_
          rw [e] at ih
          exact ih
  exact loop 0 (by omega)
/-- the pieces whose rest is 0 or g -/
def l_wo (f : Nat → Nat) (g : Nat) : Nat → Nat
  | 0 => 0
  | k + 1 => if f k = 0 ∨ f k = g then l_wo f g k ||| 2 ^ k else l_wo f g k
theorem l_wo_bit (f : Nat → Nat) (g i : Nat) : ∀ k, (l_wo f g k).testBit i = (decide (i < k) && decide (f i = 0 ∨ f i = g))
  | 0 => by simp [l_wo]
  | k + 1 => by
    have ih := l_wo_bit f g i k
    simp only [l_wo]
    by_cases hi : i = k
    · subst hi
      by_cases hc : f i = 0 ∨ f i = g
      · rw [if_pos hc, Nat.testBit_or, Nat.testBit_two_pow]
        simp [hc]
      · rw [if_neg hc, ih]
        simp [hc]
    · by_cases hc : f k = 0 ∨ f k = g
      · rw [if_pos hc, Nat.testBit_or, Nat.testBit_two_pow, ih]
        by_cases h2 : i < k
        · simp [h2, Nat.lt_succ_of_lt h2, Ne.symm hi]
        · simp [h2, show ¬ i < k + 1 by omega, Ne.symm hi]
      · rw [if_neg hc, ih]
        by_cases h2 : i < k
        · simp [h2, Nat.lt_succ_of_lt h2]
        · simp [h2, show ¬ i < k + 1 by omega]
theorem l_wo_lt (f : Nat → Nat) (g k : Nat) : l_wo f g k < 2 ^ k := q_lt2 fun i hi => by
  rw [l_wo_bit]
  simp [show ¬ i < k by omega]
theorem m_workedOutWith (d : Nat) (h : zH) (I : zI) (J : zJ) (a : Nat) (hk : zKn h a) (f : Nat → Nat) (hf : ∀ p, p < 10 → I (a + 1) p = nI (f p)) (hl : ∀ p, p < 10 → f p < 1024) (g : Nat) (hg : g < 1024) : z_C yX0_workedOutWith cX0_workedOutWith 4 (some .int) d [.ref a, .int (nI g)] h I J 0 0 (z_q (some (.int (nI (l_wo f g 10)))) h I J) := by
  refine z_C.of (by decide) (Nat.le_of_ble_eq_true rfl) fun K E X => ?_
  refine v_iconst (v := nI 0) E dX0_workedOutWith_0 (by decide) ?_
  refine v_istore_n E dX0_workedOutWith_1 (by decide) ?_
  refine v_iconst (v := nI 0) E dX0_workedOutWith_2 (by decide) ?_
  refine v_istore_n E dX0_workedOutWith_3 (by decide) ?_
  have loop : ∀ k, k ≤ 10 → z_V K 4 [(0, .ref a), (1, .int (nI g)), (2, .int (nI (l_wo f g k))), (3, .int (nI k))] [] h I J 0 0 := by
    refine z_for 10 ?_ (fun k hk1 ih => ?_)
    · refine v_iload_n E dX0_workedOutWith_4 rfl ?_
      refine v_bipush (v := nI 10) E dX0_workedOutWith_5 (by decide) ?_
      refine v_icmp_geN (tgt := 41) E dX0_workedOutWith_7 (by decide) (by omega) (by omega) (fun c => ?_) (fun c => ?_)
      · refine v_iload_n E dX0_workedOutWith_41 rfl ?_
        exact v_iret E X dX0_workedOutWith_42 z_qq
      · exact absurd c (by omega)
    · have hlk := hl k hk1
      have put : (f k = 0 ∨ f k = g) → z_V K 29 [(0, .ref a), (1, .int (nI g)), (2, .int (nI (l_wo f g k))), (3, .int (nI k))] [] h I J 0 0 := by
        intro hc
        have e : l_wo f g (k + 1) = l_wo f g k ||| 1 * 2 ^ k := by rw [Nat.one_mul]; simp only [l_wo]; rw [if_pos hc]
        rw [e] at ih
        refine v_iload_n E dX0_workedOutWith_29 rfl ?_
        refine v_iconst (v := nI 1) E dX0_workedOutWith_30 (by decide) ?_
        refine v_iload_n E dX0_workedOutWith_31 rfl ?_
        refine v_ishlN E dX0_workedOutWith_32 (by omega) ?_
        refine v_iorN E dX0_workedOutWith_33 ?_
        refine v_istore_n E dX0_workedOutWith_34 (by decide) ?_
        refine v_inc E dX0_workedOutWith_35 rfl (by decide) ?_
        refine v_goto (tgt := 4) E dX0_workedOutWith_38 (by decide) ?_
        exact ih
      refine v_iload_n E dX0_workedOutWith_4 rfl ?_
      refine v_bipush (v := nI 10) E dX0_workedOutWith_5 (by decide) ?_
      refine v_icmp_geN (tgt := 41) E dX0_workedOutWith_7 (by decide) (by omega) (by omega) (fun c => ?_) (fun c => ?_)
      · exact absurd c (by omega)
      · refine v_aload_n E dX0_workedOutWith_10 rfl ?_
        refine v_getR E f_X0_9 dX0_workedOutWith_11 hk.1 rfl hk.2.2.2.1 ?_
        refine v_iload_n E dX0_workedOutWith_14 rfl ?_
        refine v_ialoadE E dX0_workedOutWith_15 hk.2.1 rfl hk1 (by decide) (hf k hk1) ?_
        refine v_if_eqN (tgt := 29) E dX0_workedOutWith_16 (by decide) (by omega) (fun c1 => ?_) (fun c1 => ?_)
        · exact put (Or.inl c1)
        · refine v_aload_n E dX0_workedOutWith_19 rfl ?_
          refine v_getR E f_X0_9 dX0_workedOutWith_20 hk.1 rfl hk.2.2.2.1 ?_
          refine v_iload_n E dX0_workedOutWith_23 rfl ?_
          refine v_ialoadE E dX0_workedOutWith_24 hk.2.1 rfl hk1 (by decide) (hf k hk1) ?_
          refine v_iload_n E dX0_workedOutWith_25 rfl ?_
          refine v_icmp_neN (tgt := 35) E dX0_workedOutWith_26 (by decide) (by omega) (by omega) (fun c2 => ?_) (fun c2 => ?_)
          · have e : l_wo f g (k + 1) = l_wo f g k := by simp only [l_wo]; rw [if_neg (by omega)]
            rw [e] at ih
            refine v_inc E dX0_workedOutWith_35 rfl (by decide) ?_
            refine v_goto (tgt := 4) E dX0_workedOutWith_38 (by decide) ?_
            exact ih
          · exact put (Or.inr c2)
  exact loop 0 (by omega)
theorem m_workedOut (d : Nat) (h : zH) (I : zI) (J : zJ) (a : Nat) (hk : zKn h a) (f : Nat → Nat) (hf : ∀ p, p < 10 → I (a + 1) p = nI (f p)) (hl : ∀ p, p < 10 → f p < 1024) : z_C yX0_workedOut cX0_workedOut 1 (some .int) (d + 1) [.ref a] h I J 0 0 (z_q (some (.int (nI (l_wo f 0 10)))) h I J) := by
  refine z_C.of (by decide) (Nat.le_of_ble_eq_true rfl) fun K E X => ?_
  refine v_aload_n E dX0_workedOut_0 rfl ?_
  refine v_iconst (v := nI 0) E dX0_workedOut_1 (by decide) ?_
  refine v_callV1 E dX0_workedOut_2 k_X0_46 Y_X0_workedOutWith (m_workedOutWith d h I J a hk f hf hl 0 (by decide)) hk.1 rfl rfl (Nat.le_of_ble_eq_true rfl) ?_
  exact v_iret E X dX0_workedOut_5 z_qq
theorem m_isWorkedOut (d : Nat) (h : zH) (I : zI) (J : zJ) (a : Nat) (hk : zKn h a) (f : Nat → Nat) (hf : ∀ p, p < 10 → I (a + 1) p = nI (f p)) (hl : ∀ p, p < 10 → f p < 1024) (p : Nat) (hp : p < 10) : z_C yX0_isWorkedOut cX0_isWorkedOut 2 (some .boolean) d [.ref a, .int (nI p)] h I J 0 0 (z_q (some (.int (nI (decide (f p = 0)).toNat))) h I J) := by
  have hlp := hl p hp
  refine z_C.of (by decide) (Nat.le_of_ble_eq_true rfl) fun K E X => ?_
  refine v_iload_n E dX0_isWorkedOut_0 rfl ?_
  refine v_if_lt (tgt := 23) E dX0_isWorkedOut_1 (by decide)  (fun c => ?_) (fun c => ?_)
  · exact absurd c (nI_pos (by omega))
  · refine v_iload_n E dX0_isWorkedOut_4 rfl ?_
    refine v_bipush (v := nI 10) E dX0_isWorkedOut_5 (by decide) ?_
    refine v_icmp_geN (tgt := 23) E dX0_isWorkedOut_7 (by decide) (by omega) (by omega) (fun c1 => ?_) (fun c1 => ?_)
    · exact absurd c1 (by omega)
    · refine v_aload_n E dX0_isWorkedOut_10 rfl ?_
      refine v_getR E f_X0_9 dX0_isWorkedOut_11 hk.1 rfl hk.2.2.2.1 ?_
      refine v_iload_n E dX0_isWorkedOut_14 rfl ?_
      refine v_ialoadE E dX0_isWorkedOut_15 hk.2.1 rfl hp (by decide) (hf p hp) ?_
      refine v_if_neN (tgt := 23) E dX0_isWorkedOut_16 (by decide) (by omega) (fun c2 => ?_) (fun c2 => ?_)
      · refine v_iconst (v := nI 0) E dX0_isWorkedOut_23 (by decide) ?_
        exact v_zret E X dX0_isWorkedOut_24 (by first | exact Or.inl rfl | exact Or.inr rfl) (z_qi (by rw [decide_eq_false (by omega)]; rfl))
      · refine v_iconst (v := nI 1) E dX0_isWorkedOut_19 (by decide) ?_
        refine v_goto (tgt := 24) E dX0_isWorkedOut_20 (by decide) ?_
        exact v_zret E X dX0_isWorkedOut_24 (by first | exact Or.inl rfl | exact Or.inr rfl) (z_qi (by rw [decide_eq_true c2]; rfl))
/-- what a call on the Knowledge at a leaves as it was -/
def kFr (a : Nat) (I : zI) (J : zJ) (I' : zI) (J' : zJ) : Prop := (∀ q, q ≠ a → q ≠ a + 1 → I' q = I q) ∧ ∀ q, q ≠ a + 2 → J' q = J q
theorem m_become (d : Nat) (h : zH) (I : zI) (J : zJ) (a b : Nat) (hk : zKn h a) (hb : zKn h b) (hab : b ≠ a) (hab1 : b ≠ a + 1) (f : Nat → Nat) (rk : Nat) (hf : kI I b f rk) : z_C yX0_become cX0_become 2 none (d + 1) [.ref a, .ref b] h I J 0 0 (fun r h' I' J' => r = none ∧ h' = h ∧ kI I' a f rk ∧ kFr a I J I' J') := by
  refine z_C.of (by decide) (Nat.le_of_ble_eq_true rfl) fun K E X => ?_
  refine v_aload_n E dX0_become_0 rfl ?_
  refine v_getR E f_X0_9 dX0_become_1 hb.1 rfl hb.2.2.2.1 ?_
  refine v_iconst (v := nI 0) E dX0_become_4 (by decide) ?_
  refine v_aload_n E dX0_become_5 rfl ?_
  refine v_getR E f_X0_9 dX0_become_6 hk.1 rfl hk.2.2.2.1 ?_
  refine v_iconst (v := nI 0) E dX0_become_9 (by decide) ?_
  refine v_bipush (v := nI 10) E dX0_become_10 (by decide) ?_
  refine v_copyI E dX0_become_12 k_X0_19 hb.2.1 hk.2.1 rfl (by decide) (Nat.le_of_ble_eq_true rfl) ?_
  refine v_aload_n E dX0_become_15 rfl ?_
  refine v_getR E f_X0_15 dX0_become_16 hb.1 rfl hb.2.2.2.2 ?_
  refine v_iconst (v := nI 0) E dX0_become_19 (by decide) ?_
  refine v_aload_n E dX0_become_20 rfl ?_
  refine v_getR E f_X0_15 dX0_become_21 hk.1 rfl hk.2.2.2.2 ?_
  refine v_iconst (v := nI 0) E dX0_become_24 (by decide) ?_
  refine v_bipush (v := nI 10) E dX0_become_25 (by decide) ?_
  refine v_copyJ E dX0_become_27 k_X0_19 hb.2.2.1 hk.2.2.1 rfl (by decide) (Nat.le_of_ble_eq_true rfl) ?_
  refine v_aload_n E dX0_become_30 rfl ?_
  refine v_aload_n E dX0_become_31 rfl ?_
  refine v_getIE E f_X0_25 dX0_become_32 hb.1 rfl (show z_w I (a + 1) _ b 2 = nI rk by rw [z_w_row hab1]; exact hf.2) ?_
  refine v_putI E f_X0_25 dX0_become_35 hk.1 rfl rfl rfl (by decide) ?_
  refine v_vret E X dX0_become_38 ⟨rfl, rfl, ⟨fun p hp => ?_, z_u_same⟩, ⟨fun q h1 h2 => ?_, fun q h1 => z_w_row h1⟩⟩
  · rw [z_u_row (by omega), z_w_same, pk_cpy_in (by omega) (by omega)]
    simpa using hf.1 p hp
  · rw [z_u_row h1, z_w_row h2]
