/-! ORDERS -/
/-- the set of the j below k of which B holds -/
def o_m (B : Nat → Bool) : Nat → Nat
  | 0 => 0
  | k + 1 => if B k then o_m B k ||| 2 ^ k else o_m B k
theorem o_m_bit (B : Nat → Bool) (i : Nat) : ∀ k, (o_m B k).testBit i = (decide (i < k) && B i)
  | 0 => by simp [o_m]
  | k + 1 => by
    have ih := o_m_bit B i k
    simp only [o_m]
    by_cases hi : i = k
    · subst hi
      cases hf : B i with
      | true => simp [Nat.testBit_or, ih, Nat.testBit_two_pow]
      | false => simp [ih]
    · have e1 : decide (i < k + 1) = decide (i < k) := by
        by_cases h2 : i < k
        · simp [h2, Nat.lt_succ_of_lt h2]
        · simp [h2, show ¬ i < k + 1 by omega]
      rw [e1]
      cases hf : B k with
      | true => simp [Nat.testBit_or, ih, Nat.testBit_two_pow, Ne.symm hi]
      | false => simp [ih]
theorem o_m_lt (B : Nat → Bool) (k : Nat) : o_m B k < 2 ^ k := q_lt2 fun i hi => by
  rw [o_m_bit]
  simp [show ¬ i < k by omega]
theorem q_and_le (a b : Nat) : a &&& b ≤ a := Nat.and_le_left
theorem q_and_lts {a b i : Nat} (h1 : a.testBit i = true) (h2 : b.testBit i = false) : a &&& b < a := by
  rcases Nat.lt_or_eq_of_le (q_and_le a b) with h | h
  · exact h
  · have : (a &&& b).testBit i = true := by rw [h]; exact h1
    rw [Nat.testBit_and, h2, Bool.and_false] at this
    cases this
/-- the most that an order of set's needs, with its first among those below k, can have -/
def o_mx (pt : Nat → Nat) (t : Nat → Nat) (set : Nat) : Nat → Nat
  | 0 => 0
  | k + 1 => if set.testBit k then max (o_mx pt t set k) (1 + t (set &&& pt k)) else o_mx pt t set k
def o_tab (pt : Nat → Nat) (n : Nat) : Nat → Nat → Nat
  | 0 => fun _ => 0
  | k + 1 => va_up (o_tab pt n k) k (o_mx pt (o_tab pt n k) k n)
def o_T (pt : Nat → Nat) (n set : Nat) : Nat := o_tab pt n (set + 1) set
theorem o_tab_old (pt : Nat → Nat) (n : Nat) {j : Nat} : ∀ k, j < k → o_tab pt n k j = o_T pt n j
  | k + 1, h => by
    by_cases e : j = k
    · subst e
      rfl
    · show va_up (o_tab pt n k) k _ j = _
      rw [u_up_ne e]
      exact o_tab_old pt n k (by omega)
theorem o_mx_congr {pt t t' : Nat → Nat} {set : Nat} : ∀ k, (∀ i, i < k → set.testBit i = true → t (set &&& pt i) = t' (set &&& pt i)) → o_mx pt t set k = o_mx pt t' set k
  | 0, _ => rfl
  | k + 1, h => by
    simp only [o_mx, o_mx_congr k (fun i hi => h i (by omega))]
    by_cases e : set.testBit k = true
    · rw [if_pos e, if_pos e, h k (by omega) e]
    · rw [if_neg e, if_neg e]
/-- no need stands behind itself -/
def o_irr (pt : Nat → Nat) (n : Nat) : Prop := ∀ i, i < n → (pt i).testBit i = false
theorem o_T_rec {pt : Nat → Nat} {n : Nat} (hp : o_irr pt n) (set : Nat) : o_T pt n set = o_mx pt (o_T pt n) set n := by
  show va_up (o_tab pt n set) set _ set = _
  rw [u_up_same]
  exact o_mx_congr n (fun i hi hb => o_tab_old pt n set (q_and_lts hb (hp i hi)))
theorem o_mx_le {pt t : Nat → Nat} {set : Nat} (h : ∀ i, set.testBit i = true → 1 + t (set &&& pt i) ≤ set) : ∀ k, o_mx pt t set k ≤ set
  | 0 => Nat.zero_le _
  | k + 1 => by
    have ih := o_mx_le h k
    simp only [o_mx]
    split
    · rename_i hb
      exact Nat.max_le.mpr ⟨ih, h k hb⟩
    · exact ih
theorem o_mx_leN {pt t : Nat → Nat} {set : Nat} {n : Nat} (h : ∀ i, i < n → set.testBit i = true → 1 + t (set &&& pt i) ≤ set) : ∀ k, k ≤ n → o_mx pt t set k ≤ set
  | 0, _ => Nat.zero_le _
  | k + 1, hk => by
    have ih := o_mx_leN h k (by omega)
    simp only [o_mx]
    split
    · rename_i hb
      exact Nat.max_le.mpr ⟨ih, h k (by omega) hb⟩
    · exact ih
theorem o_T_le {pt : Nat → Nat} {n : Nat} (hp : o_irr pt n) : ∀ set, o_T pt n set ≤ set := by
  intro set
  induction set using Nat.strongRecOn with
  | _ set ih =>
    rw [o_T_rec hp]
    refine o_mx_leN (n := n) (fun i hi hb => ?_) n (Nat.le_refl _)
    have h1 := q_and_lts hb (hp i hi)
    have h2 := ih _ h1
    omega
theorem o_mx_leK {pt t : Nat → Nat} {set : Nat} {n : Nat} (hp : ∀ i, i < n → set.testBit i = true → t (set &&& pt i) ≤ set &&& pt i) (hi : o_irr pt n) : ∀ k, k ≤ n → o_mx pt t set k ≤ set := fun k hk => o_mx_leN (n := n) (fun i h1 hb => by have := hp i h1 hb; have := q_and_lts hb (hi i h1); omega) k hk
/-- the least of c numbers from k on of which P holds, else 0 -/
def o_ff (P : Nat → Bool) : Nat → Nat → Nat
  | 0, _ => 0
  | c + 1, k => if P k then k else o_ff P c (k + 1)
theorem o_ff_lt {P : Nat → Bool} : ∀ {c k n : Nat}, k + c ≤ n → 0 < n → o_ff P c k < n
  | 0, _, _, _, h => h
  | c + 1, k, n, h1, h2 => by
    simp only [o_ff]
    split
    · omega
    · exact o_ff_lt (by omega) h2
def o_1st (pt : Nat → Nat) (n set : Nat) : Nat := o_ff (fun i => set.testBit i && decide (1 + o_T pt n (set &&& pt i) = o_T pt n set)) n 0
def o_set (pt : Nat → Nat) (n : Nat) : Nat → Nat
  | 0 => 2 ^ n - 1
  | k + 1 => o_set pt n k &&& pt (o_1st pt n (o_set pt n k))
theorem o_set_lt (pt : Nat → Nat) (n : Nat) : ∀ k, o_set pt n k < 2 ^ n
  | 0 => by
    have := Nat.two_pow_pos n
    show 2 ^ n - 1 < 2 ^ n
    omega
  | k + 1 => q_and_lt (o_set_lt pt n k)
/-- who can stand behind need i -/
def s_pt (s : zS) (i : Nat) : Nat := o_m (fun j => decide (n_q (s_nd s) i ≠ n_q (s_nd s) j) && (s_lk s (n_w (s_nd s) i)).testBit (n_q (s_nd s) j)) (s_nd s).length
theorem s_pt_irr (s : zS) : o_irr (s_pt s) (s_nd s).length := fun i hi => by
  unfold s_pt
  rw [o_m_bit]
  simp
theorem m_sorted (d nl n : Nat) (I : zI) (J : zJ) (hn : I 7 2 = nI n) (h10 : n ≤ 10) : z_C yX2_sortedCount cX2_sortedCount 1 (some .int) (d + 1) [.ref 7] (z_s nl) I J 0 0 (z_q (some (.int (nI n))) (z_s nl) I J) := by
  refine z_C.of (by decide) (Nat.le_of_ble_eq_true rfl) fun K E X => ?_
  refine v_aload_n E dX2_sortedCount_0 rfl ?_
  refine v_getIE E f_X2_27 dX2_sortedCount_1 rfl rfl hn ?_
  refine v_bipush (v := nI 10) E dX2_sortedCount_4 (by decide) ?_
  refine v_minN E dX2_sortedCount_6 k_X2_54 (by omega) (by omega) (Nat.le_of_ble_eq_true rfl) ?_
  exact v_iret E X dX2_sortedCount_9 (z_qi (by rw [Nat.min_eq_left h10]))
theorem m_allNeeds (d nl n : Nat) (I : zI) (J : zJ) (hn : I 7 2 = nI n) (h10 : n ≤ 10) : z_C yX2_allNeeds cX2_allNeeds 1 (some .int) (d + 2) [.ref 7] (z_s nl) I J 0 0 (z_q (some (.int (nI (2 ^ n - 1)))) (z_s nl) I J) := by
  have hp : 0 < 2 ^ n := Nat.two_pow_pos n
  refine z_C.of (by decide) (Nat.le_of_ble_eq_true rfl) fun K E X => ?_
  refine v_iconst (v := nI 1) E dX2_allNeeds_0 (by decide) ?_
  refine v_aload_n E dX2_allNeeds_1 rfl ?_
  refine v_callV1 E dX2_allNeeds_2 k_X2_60 Y_X2_sortedCount (m_sorted d nl n I J hn h10) rfl rfl rfl (Nat.le_of_ble_eq_true rfl) ?_
  refine v_ishlN E dX2_allNeeds_5 (by omega) ?_
  refine v_iconst (v := nI 1) E dX2_allNeeds_6 (by decide) ?_
  refine v_isubN E dX2_allNeeds_7 (by omega) ?_
  exact v_iret E X dX2_allNeeds_8 (z_qi (by rw [Nat.one_mul]))
theorem m_canBeSorted (d nl n : Nat) (I : zI) (J : zJ) (hn : I 7 2 = nI n) (h100 : n ≤ 100) : z_C yX2_canBeSorted cX2_canBeSorted 1 (some .boolean) d [.ref 7] (z_s nl) I J 0 0 (z_q (some (.int (nI (decide (n ≤ 10)).toNat))) (z_s nl) I J) := by
  refine z_C.of (by decide) (Nat.le_of_ble_eq_true rfl) fun K E X => ?_
  refine v_aload_n E dX2_canBeSorted_0 rfl ?_
  refine v_getIE E f_X2_27 dX2_canBeSorted_1 rfl rfl hn ?_
  refine v_bipush (v := nI 10) E dX2_canBeSorted_4 (by decide) ?_
  refine v_icmp_gtN (tgt := 13) E dX2_canBeSorted_6 (by decide) (by omega) (by omega) (fun c => ?_) (fun c => ?_)
  · refine v_iconst (v := nI 0) E dX2_canBeSorted_13 (by decide) ?_
    exact v_zret E X dX2_canBeSorted_14 (by first | exact Or.inl rfl | exact Or.inr rfl) (z_qi (by rw [decide_eq_false (by omega)]; rfl))
  · refine v_iconst (v := nI 1) E dX2_canBeSorted_9 (by decide) ?_
    refine v_goto (tgt := 14) E dX2_canBeSorted_10 (by decide) ?_
    exact v_zret E X dX2_canBeSorted_14 (by first | exact Or.inl rfl | exact Or.inr rfl) (z_qi (by rw [decide_eq_true (by omega)]; rfl))
theorem s_lk_lt {s : zS} (hw : s_wf s) (l : Nat) : s_lk s l < 1024 := q_df_lt (k := 10) (p2_lt hw.1)
theorem m_canStandBehind (d : Nat) (s : zS) (hw : s_wf s) (I : zI) (J : zJ) (hN : ndI s (s_nd s) I) (h10 : (s_nd s).length ≤ 10) (i : Nat) (hi : i < (s_nd s).length) : z_C yX2_canStandBehind cX2_canStandBehind 4 (some .int) (d + 2) [.ref 7, .int (nI i)] (z_s (s_nl s)) I J 0 0 (z_q (some (.int (nI (s_pt s i)))) (z_s (s_nl s)) I J) := by
  have w1 := hw.1
  have hqi := (s_nd_at hi).2.1
  have hlk := s_lk_lt hw (n_w (s_nd s) i)
  unfold s_pt
  generalize hB : (fun j => decide (n_q (s_nd s) i ≠ n_q (s_nd s) j) && (s_lk s (n_w (s_nd s) i)).testBit (n_q (s_nd s) j)) = B
  refine z_C.of (by decide) (Nat.le_of_ble_eq_true rfl) fun K E X => ?_
  refine v_iconst (v := nI 0) E dX2_canStandBehind_0 (by decide) ?_
  refine v_istore_n E dX2_canStandBehind_1 (by decide) ?_
  refine v_iconst (v := nI 0) E dX2_canStandBehind_2 (by decide) ?_
  refine v_istore_n E dX2_canStandBehind_3 (by decide) ?_
  have loop : ∀ k, k ≤ (s_nd s).length → z_V K 4 [(0, .ref 7), (1, .int (nI i)), (2, .int (nI (o_m B k))), (3, .int (nI k))] [] (z_s (s_nl s)) I J 0 0 := by
    refine z_for _ ?_ (fun k hk ih => ?_)
    · refine v_iload_n E dX2_canStandBehind_4 rfl ?_
      refine v_aload_n E dX2_canStandBehind_5 rfl ?_
      refine v_callV1 E dX2_canStandBehind_6 k_X2_60 Y_X2_sortedCount (m_sorted d (s_nl s) _ I J hN.1 h10) rfl rfl rfl (Nat.le_of_ble_eq_true rfl) ?_
      refine v_icmp_geN (tgt := 57) E dX2_canStandBehind_9 (by decide) (by omega) (by omega) (fun c => ?_) (fun c => ?_)
      · refine v_iload_n E dX2_canStandBehind_57 rfl ?_
        exact v_iret E X dX2_canStandBehind_58 z_qq
      · exact absurd c (by omega)
    · have hqk := (s_nd_at hk).2.1
      have e : o_m B (k + 1) = if B k then o_m B k ||| 2 ^ k else o_m B k := rfl
      have hBk : B k = (decide (n_q (s_nd s) i ≠ n_q (s_nd s) k) && (s_lk s (n_w (s_nd s) i)).testBit (n_q (s_nd s) k)) := by rw [← hB]
      have skip : B k = false → z_V K 51 [(0, .ref 7), (1, .int (nI i)), (2, .int (nI (o_m B k))), (3, .int (nI k))] [] (z_s (s_nl s)) I J 0 0 := by
        intro e2
        rw [e2] at e
        rw [e] at ih
        refine v_inc E dX2_canStandBehind_51 rfl (by decide) ?_
        refine v_goto (tgt := 4) E dX2_canStandBehind_54 (by decide) ?_
        exact ih
      refine v_iload_n E dX2_canStandBehind_4 rfl ?_
      refine v_aload_n E dX2_canStandBehind_5 rfl ?_
      refine v_callV1 E dX2_canStandBehind_6 k_X2_60 Y_X2_sortedCount (m_sorted d (s_nl s) _ I J hN.1 h10) rfl rfl rfl (Nat.le_of_ble_eq_true rfl) ?_
      refine v_icmp_geN (tgt := 57) E dX2_canStandBehind_9 (by decide) (by omega) (by omega) (fun c => ?_) (fun c => ?_)
      · exact absurd c (by omega)
      · refine v_aload_n E dX2_canStandBehind_12 rfl ?_
        refine v_getR E f_X2_15 dX2_canStandBehind_13 rfl rfl rfl ?_
        refine v_iload_n E dX2_canStandBehind_16 rfl ?_
        refine v_ialoadE E dX2_canStandBehind_17 rfl rfl (by omega) (by decide) (hN.2 i hi).2.1 ?_
        refine v_aload_n E dX2_canStandBehind_18 rfl ?_
        refine v_getR E f_X2_15 dX2_canStandBehind_19 rfl rfl rfl ?_
        refine v_iload_n E dX2_canStandBehind_22 rfl ?_
        refine v_ialoadE E dX2_canStandBehind_23 rfl rfl (by omega) (by decide) (hN.2 k hk).2.1 ?_
        refine v_icmp_eqN (tgt := 51) E dX2_canStandBehind_24 (by decide) (by omega) (by omega) (fun c1 => ?_) (fun c1 => ?_)
        · exact skip (by rw [hBk, decide_eq_false (by omega)]; rfl)
        · refine v_aload_n E dX2_canStandBehind_27 rfl ?_
          refine v_getR E f_X2_15 dX2_canStandBehind_28 rfl rfl rfl ?_
          refine v_iload_n E dX2_canStandBehind_31 rfl ?_
          refine v_ialoadE E dX2_canStandBehind_32 rfl rfl (by omega) (by decide) (hN.2 k hk).2.1 ?_
          refine v_aload_n E dX2_canStandBehind_33 rfl ?_
          refine v_getR E f_X2_18 dX2_canStandBehind_34 rfl rfl rfl ?_
          refine v_iload_n E dX2_canStandBehind_37 rfl ?_
          refine v_ialoadE E dX2_canStandBehind_38 rfl rfl (by omega) (by decide) (hN.2 i hi).2.2 ?_
          refine v_callN1 E dX2_canStandBehind_39 k_nN Y_X3_isIn (m_isIn (d + 1) (z_s (s_nl s)) I J _ _ (by omega) (by omega)) rfl rfl (Nat.le_of_ble_eq_true rfl) ?_
          refine v_if_eqB (tgt := 51) E dX2_canStandBehind_42 (by decide)  (fun c2 => ?_) (fun c2 => ?_)
          · exact skip (by rw [hBk, c2, Bool.and_false])
          · have e2 : B k = true := by rw [hBk, c2, decide_eq_true c1]; rfl
            rw [e2] at e
            rw [e] at ih
            refine v_iload_n E dX2_canStandBehind_45 rfl ?_
            refine v_iconst (v := nI 1) E dX2_canStandBehind_46 (by decide) ?_
            refine v_iload_n E dX2_canStandBehind_47 rfl ?_
            refine v_ishlN E dX2_canStandBehind_48 (by omega) ?_
            refine v_iorN E dX2_canStandBehind_49 ?_
            refine v_istore_n E dX2_canStandBehind_50 (by decide) ?_
            refine v_inc E dX2_canStandBehind_51 rfl (by decide) ?_
            refine v_goto (tgt := 4) E dX2_canStandBehind_54 (by decide) ?_
            rw [Nat.one_mul]
            exact ih
  exact loop 0 (by omega)
/-- what fillOrders leaves -/
def odI (pt : Nat → Nat) (n : Nat) (I : zI) : Prop := (∀ i, i < n → I 11 i = nI (pt i)) ∧ ∀ j, j < 2 ^ n → I 12 j = nI (o_T pt n j)
def foI (I I' : zI) : Prop := ∀ q, q ≠ 11 → q ≠ 12 → I' q = I q
theorem p2n {n : Nat} (h : n ≤ 10) : 2 ^ n ≤ 1024 := Nat.pow_le_pow_right (n := 2) (by decide) h
theorem ndI_fo {s : zS} {L : List (Nat × Nat)} {I I' : zI} (h : ndI s L I) (hf : foI I I') : ndI s L I' := by
  refine ⟨by rw [hf 7 (by decide) (by decide)]; exact h.1, fun i hi => ?_⟩
  rw [hf 8 (by decide) (by decide), hf 9 (by decide) (by decide), hf 10 (by decide) (by decide)]
  exact h.2 i hi
theorem m_fillOrders (d : Nat) (s : zS) (hw : s_wf s) (I : zI) (J : zJ) (hN : ndI s (s_nd s) I) (h10 : (s_nd s).length ≤ 10) : z_C yX2_fillOrders cX2_fillOrders 4 none (d + 3) [.ref 7] (z_s (s_nl s)) I J 0 0 (fun r h' I' J' => r = none ∧ h' = z_s (s_nl s) ∧ odI (s_pt s) (s_nd s).length I' ∧ foI I I' ∧ J' = J) := by
  have hirr := s_pt_irr s
  have hp2 := p2n h10
  have hpp := Nat.two_pow_pos (s_nd s).length
  have hptl : ∀ i, s_pt s i < 2 ^ (s_nd s).length := fun i => o_m_lt _ _
  refine z_C.of (by decide) (Nat.le_of_ble_eq_true rfl) fun K E X => ?_
  refine v_iconst (v := nI 0) E dX2_fillOrders_0 (by decide) ?_
  refine v_istore_n E dX2_fillOrders_1 (by decide) ?_
  have second : ∀ I1 : zI, (∀ i, i < (s_nd s).length → I1 11 i = nI (s_pt s i)) → foI I I1 → z_V K 27 [(0, .ref 7), (1, .int (nI (s_nd s).length))] [] (z_s (s_nl s)) I1 J 0 0 := by
    intro I1 h1 h2
    refine v_aload_n E dX2_fillOrders_27 rfl ?_
    refine v_getR E f_X2_24 dX2_fillOrders_28 rfl rfl rfl ?_
    refine v_iconst (v := nI 0) E dX2_fillOrders_31 (by decide) ?_
    refine v_iconst (v := nI 0) E dX2_fillOrders_32 (by decide) ?_
    refine v_iastore E dX2_fillOrders_33 rfl rfl (by decide) (by decide) ?_
    refine v_iconst (v := nI 1) E dX2_fillOrders_34 (by decide) ?_
    refine v_istore_n E dX2_fillOrders_35 (by decide) ?_
    have l2 : ∀ k, k ≤ 2 ^ (s_nd s).length → 0 < k → ∀ I2 : zI, (∀ i, i < (s_nd s).length → I2 11 i = nI (s_pt s i)) → (∀ j, j < k → I2 12 j = nI (o_T (s_pt s) (s_nd s).length j)) → foI I I2 → ∀ ls : zL, (∀ q ∈ [(0, Value.ref 7), (1, .int (nI k))], z_at ls q.1 = some q.2) → z_V K 36 ls [] (z_s (s_nl s)) I2 J 0 0 := by
      refine z_for _ ?_ (fun k hk ih => ?_)
      · intro _ I2 g1 g2 g3 ls hls
        have hN2 := ndI_fo hN g3
        refine v_ls hls ?_
        refine v_iload_n E dX2_fillOrders_36 rfl ?_
        refine v_aload_n E dX2_fillOrders_37 rfl ?_
        refine v_callV1 E dX2_fillOrders_38 k_X2_34 Y_X2_allNeeds (m_allNeeds d (s_nl s) _ I2 J hN2.1 h10) rfl rfl rfl (Nat.le_of_ble_eq_true rfl) ?_
        refine v_icmp_gtN (tgt := 103) E dX2_fillOrders_41 (by decide) (by omega) (by omega) (fun c => ?_) (fun c => ?_)
        · exact v_vret E X dX2_fillOrders_103 ⟨rfl, rfl, ⟨g1, g2⟩, g3, rfl⟩
        · exact absurd c (by omega)
      · intro hk0 I2 g1 g2 g3 ls hls
        have hN2 := ndI_fo hN g3
        refine v_ls hls ?_
        refine v_iload_n E dX2_fillOrders_36 rfl ?_
        refine v_aload_n E dX2_fillOrders_37 rfl ?_
        refine v_callV1 E dX2_fillOrders_38 k_X2_34 Y_X2_allNeeds (m_allNeeds d (s_nl s) _ I2 J hN2.1 h10) rfl rfl rfl (Nat.le_of_ble_eq_true rfl) ?_
        refine v_icmp_gtN (tgt := 103) E dX2_fillOrders_41 (by decide) (by omega) (by omega) (fun c => ?_) (fun c => ?_)
        · exact absurd c (by omega)
        · refine v_iconst (v := nI 0) E dX2_fillOrders_44 (by decide) ?_
          refine v_istore_n E dX2_fillOrders_45 (by decide) ?_
          refine v_iconst (v := nI 0) E dX2_fillOrders_46 (by decide) ?_
          refine v_istore_n E dX2_fillOrders_47 (by decide) ?_
          have hTle : ∀ j, o_T (s_pt s) (s_nd s).length j ≤ j := o_T_le hirr
          have l3 : ∀ i, i ≤ (s_nd s).length → z_V K 48 [(0, .ref 7), (1, .int (nI k)), (2, .int (nI (o_mx (s_pt s) (o_T (s_pt s) (s_nd s).length) k i))), (3, .int (nI i))] [] (z_s (s_nl s)) I2 J 0 0 := by
            refine z_for _ ?_ (fun i hi ih3 => ?_)
            · refine v_iload_n E dX2_fillOrders_48 rfl ?_
              refine v_aload_n E dX2_fillOrders_49 rfl ?_
              refine v_callV1 E dX2_fillOrders_50 k_X2_60 Y_X2_sortedCount (m_sorted (d + 1) (s_nl s) _ I2 J hN2.1 h10) rfl rfl rfl (Nat.le_of_ble_eq_true rfl) ?_
              refine v_icmp_geN (tgt := 90) E dX2_fillOrders_53 (by decide) (by omega) (by omega) (fun c3 => ?_) (fun c3 => ?_)
              · refine v_aload_n E dX2_fillOrders_90 rfl ?_
                refine v_getR E f_X2_24 dX2_fillOrders_91 rfl rfl rfl ?_
                refine v_iload_n E dX2_fillOrders_94 rfl ?_
                refine v_iload_n E dX2_fillOrders_95 rfl ?_
                refine v_iastore E dX2_fillOrders_96 rfl rfl (by omega) (by decide) ?_
                refine v_inc E dX2_fillOrders_97 rfl (by decide) ?_
                refine v_goto (tgt := 36) E dX2_fillOrders_100 (by decide) ?_
                refine ih (by omega) _ (fun j hj => ?_) (fun j hj => ?_) (fun q q1 q2 => ?_) _ ?_
                · rw [z_u_row (by decide)]
                  exact g1 j hj
                · by_cases e : j = k
                  · subst e
                    rw [z_u_same, ← o_T_rec hirr]
                  · rw [z_u_col e]
                    exact g2 j (by omega)
                · rw [z_u_row q2]
                  exact g3 q q1 q2
                · intro q hq
                  simp only [List.mem_cons, List.not_mem_nil, or_false] at hq
                  rcases hq with rfl | rfl <;> rfl
              · exact absurd c3 (by omega)
            · have hmxl := o_mx_leK (pt := s_pt s) (t := o_T (s_pt s) (s_nd s).length) (set := k) (n := (s_nd s).length) (fun _ _ _ => hTle _) hirr i (by omega)
              have e4 : o_mx (s_pt s) (o_T (s_pt s) (s_nd s).length) k (i + 1) = if k.testBit i then max (o_mx (s_pt s) (o_T (s_pt s) (s_nd s).length) k i) (1 + o_T (s_pt s) (s_nd s).length (k &&& s_pt s i)) else o_mx (s_pt s) (o_T (s_pt s) (s_nd s).length) k i := rfl
              refine v_iload_n E dX2_fillOrders_48 rfl ?_
              refine v_aload_n E dX2_fillOrders_49 rfl ?_
              refine v_callV1 E dX2_fillOrders_50 k_X2_60 Y_X2_sortedCount (m_sorted (d + 1) (s_nl s) _ I2 J hN2.1 h10) rfl rfl rfl (Nat.le_of_ble_eq_true rfl) ?_
              refine v_icmp_geN (tgt := 90) E dX2_fillOrders_53 (by decide) (by omega) (by omega) (fun c3 => ?_) (fun c3 => ?_)
              · exact absurd c3 (by omega)
              · refine v_iload_n E dX2_fillOrders_56 rfl ?_
                refine v_iload_n E dX2_fillOrders_57 rfl ?_
                refine v_callN1 E dX2_fillOrders_58 k_nN Y_X3_isIn (m_isIn (d + 2) (z_s (s_nl s)) I2 J i k (by omega) (by omega)) rfl rfl (Nat.le_of_ble_eq_true rfl) ?_
                refine v_if_eqB (tgt := 84) E dX2_fillOrders_61 (by decide)  (fun c4 => ?_) (fun c4 => ?_)
                · rw [c4] at e4
                  rw [e4] at ih3
                  refine v_inc E dX2_fillOrders_84 rfl (by decide) ?_
                  refine v_goto (tgt := 48) E dX2_fillOrders_87 (by decide) ?_
                  exact ih3
                · rw [c4] at e4
                  rw [e4] at ih3
                  have hlt := q_and_lts c4 (hirr i hi)
                  have hTl := hTle (k &&& s_pt s i)
                  refine v_iload_n E dX2_fillOrders_64 rfl ?_
                  refine v_iconst (v := nI 1) E dX2_fillOrders_65 (by decide) ?_
                  refine v_aload_n E dX2_fillOrders_66 rfl ?_
                  refine v_getR E f_X2_24 dX2_fillOrders_67 rfl rfl rfl ?_
                  refine v_iload_n E dX2_fillOrders_70 rfl ?_
                  refine v_aload_n E dX2_fillOrders_71 rfl ?_
                  refine v_getR E f_X2_21 dX2_fillOrders_72 rfl rfl rfl ?_
                  refine v_iload_n E dX2_fillOrders_75 rfl ?_
                  refine v_ialoadE E dX2_fillOrders_76 rfl rfl (by omega) (by decide) (g1 i hi) ?_
                  refine v_iandN E dX2_fillOrders_77 ?_
                  refine v_ialoadE E dX2_fillOrders_78 rfl rfl (show k &&& s_pt s i < 1024 by omega) (by decide) (g2 _ hlt) ?_
                  refine v_iaddN E dX2_fillOrders_79 ?_
                  refine v_maxN E dX2_fillOrders_80 k_X2_70 (by omega) (by omega) (Nat.le_of_ble_eq_true rfl) ?_
                  refine v_istore_n E dX2_fillOrders_83 (by decide) ?_
                  refine v_inc E dX2_fillOrders_84 rfl (by decide) ?_
                  refine v_goto (tgt := 48) E dX2_fillOrders_87 (by decide) ?_
                  exact ih3
          exact l3 0 (by omega)
    refine l2 1 (by omega) (by omega) _ (fun j hj => ?_) (fun j hj => ?_) (fun q q1 q2 => ?_) _ ?_
    · rw [z_u_row (by decide)]
      exact h1 j hj
    · have : j = 0 := by omega
      subst this
      rw [z_u_same]
      have := o_T_le hirr 0
      rw [show o_T (s_pt s) (s_nd s).length 0 = 0 by omega]
    · rw [z_u_row q2]
      exact h2 q q1 q2
    · intro q hq
      simp only [List.mem_cons, List.not_mem_nil, or_false] at hq
      rcases hq with rfl | rfl <;> rfl
  have l1 : ∀ k, k ≤ (s_nd s).length → ∀ I1 : zI, (∀ i, i < k → I1 11 i = nI (s_pt s i)) → foI I I1 → z_V K 2 [(0, .ref 7), (1, .int (nI k))] [] (z_s (s_nl s)) I1 J 0 0 := by
    refine z_for _ ?_ (fun k hk ih => ?_)
    · intro I1 h1 h2
      have hN1 := ndI_fo hN h2
      refine v_iload_n E dX2_fillOrders_2 rfl ?_
      refine v_aload_n E dX2_fillOrders_3 rfl ?_
      refine v_callV1 E dX2_fillOrders_4 k_X2_60 Y_X2_sortedCount (m_sorted (d + 1) (s_nl s) _ I1 J hN1.1 h10) rfl rfl rfl (Nat.le_of_ble_eq_true rfl) ?_
      refine v_icmp_geN (tgt := 27) E dX2_fillOrders_7 (by decide) (by omega) (by omega) (fun c => ?_) (fun c => ?_)
      · exact second I1 h1 h2
      · exact absurd c (by omega)
    · intro I1 h1 h2
      have hN1 := ndI_fo hN h2
      refine v_iload_n E dX2_fillOrders_2 rfl ?_
      refine v_aload_n E dX2_fillOrders_3 rfl ?_
      refine v_callV1 E dX2_fillOrders_4 k_X2_60 Y_X2_sortedCount (m_sorted (d + 1) (s_nl s) _ I1 J hN1.1 h10) rfl rfl rfl (Nat.le_of_ble_eq_true rfl) ?_
      refine v_icmp_geN (tgt := 27) E dX2_fillOrders_7 (by decide) (by omega) (by omega) (fun c => ?_) (fun c => ?_)
      · exact absurd c (by omega)
      · refine v_aload_n E dX2_fillOrders_10 rfl ?_
        refine v_getR E f_X2_21 dX2_fillOrders_11 rfl rfl rfl ?_
        refine v_iload_n E dX2_fillOrders_14 rfl ?_
        refine v_aload_n E dX2_fillOrders_15 rfl ?_
        refine v_iload_n E dX2_fillOrders_16 rfl ?_
        refine v_callV1 E dX2_fillOrders_17 k_X2_63 Y_X2_canStandBehind (m_canStandBehind d s hw I1 J hN1 h10 k hk) rfl rfl rfl (Nat.le_of_ble_eq_true rfl) ?_
        refine v_iastore E dX2_fillOrders_20 rfl rfl (by omega) (by decide) ?_
        refine v_inc E dX2_fillOrders_21 rfl (by decide) ?_
        refine v_goto (tgt := 2) E dX2_fillOrders_24 (by decide) ?_
        refine ih _ (fun j hj => ?_) (fun q q1 q2 => ?_)
        · by_cases e : j = k
          · subst e
            rw [z_u_same]
          · rw [z_u_col e]
            exact h1 j (by omega)
        · rw [z_u_row q1]
          exact h2 q q1 q2
  exact l1 0 (by omega) I (fun j hj => absurd hj (by omega)) (fun _ _ _ => rfl)
def r_longest (s : zS) : Nat := o_T (s_pt s) (s_nd s).length (2 ^ (s_nd s).length - 1)
theorem m_longestOrder (d : Nat) (s : zS) (hw : s_wf s) (I : zI) (J : zJ) (hN : ndI s (s_nd s) I) (h10 : (s_nd s).length ≤ 10) : z_C yX2_longestOrder cX2_longestOrder 1 (some .int) (d + 4) [.ref 7] (z_s (s_nl s)) I J 0 0 (fun r h' I' J' => r = some (.int (nI (r_longest s))) ∧ h' = z_s (s_nl s) ∧ odI (s_pt s) (s_nd s).length I' ∧ foI I I' ∧ J' = J) := by
  have hp2 := p2n h10
  have hpp := Nat.two_pow_pos (s_nd s).length
  refine z_C.of (by decide) (Nat.le_of_ble_eq_true rfl) fun K E X => ?_
  refine v_aload_n E dX2_longestOrder_0 rfl ?_
  refine v_callV E dX2_longestOrder_1 k_X2_31 Y_X2_fillOrders (m_fillOrders d s hw I J hN h10) rfl rfl rfl (Nat.le_of_ble_eq_true rfl) ?_
  rintro r h' I' J' ⟨rfl, rfl, g1, g2, rfl⟩
  refine v_aload_n E dX2_longestOrder_4 rfl ?_
  refine v_getR E f_X2_24 dX2_longestOrder_5 rfl rfl rfl ?_
  refine v_aload_n E dX2_longestOrder_8 rfl ?_
  refine v_callV1 E dX2_longestOrder_9 k_X2_34 Y_X2_allNeeds (m_allNeeds (d + 1) (s_nl s) _ I' J' (ndI_fo hN g2).1 h10) rfl rfl rfl (Nat.le_of_ble_eq_true rfl) ?_
  refine v_ialoadE E dX2_longestOrder_12 rfl rfl (by omega) (by decide) (g1.2 _ (by omega)) ?_
  exact v_iret E X dX2_longestOrder_13 ⟨rfl, rfl, g1, g2, rfl⟩
theorem m_firstOfLongest (d nl n : Nat) (pt : Nat → Nat) (I : zI) (J : zJ) (hn : I 7 2 = nI n) (h10 : n ≤ 10) (hO : odI pt n I) (hirr : o_irr pt n) (set : Nat) (hs : set < 2 ^ n) : z_C yX2_firstOfLongest cX2_firstOfLongest 3 (some .int) (d + 2) [.ref 7, .int (nI set)] (z_s nl) I J 0 0 (z_q (some (.int (nI (o_1st pt n set)))) (z_s nl) I J) := by
  have hp2 := p2n h10
  have hTle : ∀ j, o_T pt n j ≤ j := o_T_le hirr
  unfold o_1st
  generalize hP : (fun i => set.testBit i && decide (1 + o_T pt n (set &&& pt i) = o_T pt n set)) = P
  refine z_C.of (by decide) (Nat.le_of_ble_eq_true rfl) fun K E X => ?_
  refine v_iconst (v := nI 0) E dX2_firstOfLongest_0 (by decide) ?_
  refine v_istore_n E dX2_firstOfLongest_1 (by decide) ?_
  have loop : ∀ k, k ≤ n → o_ff P n 0 = o_ff P (n - k) k → z_V K 2 [(0, .ref 7), (1, .int (nI set)), (2, .int (nI k))] [] (z_s nl) I J 0 0 := by
    refine z_for n ?_ (fun k hk ih => ?_)
    · intro hq
      refine v_iload_n E dX2_firstOfLongest_2 rfl ?_
      refine v_aload_n E dX2_firstOfLongest_3 rfl ?_
      refine v_callV1 E dX2_firstOfLongest_4 k_X2_60 Y_X2_sortedCount (m_sorted d nl n I J hn h10) rfl rfl rfl (Nat.le_of_ble_eq_true rfl) ?_
      refine v_icmp_geN (tgt := 50) E dX2_firstOfLongest_7 (by decide) (by omega) (by omega) (fun c => ?_) (fun c => ?_)
      · refine v_iconst (v := nI 0) E dX2_firstOfLongest_50 (by decide) ?_
        exact v_iret E X dX2_firstOfLongest_51 (z_qi (by rw [hq, Nat.sub_self]; rfl))
      · exact absurd c (by omega)
    · intro hq
      have e : o_ff P (n - k) k = if P k then k else o_ff P (n - (k + 1)) (k + 1) := by
        rw [show n - k = (n - (k + 1)) + 1 by omega]
        rfl
      have hPk : P k = (set.testBit k && decide (1 + o_T pt n (set &&& pt k) = o_T pt n set)) := by rw [← hP]
      have skip : P k = false → z_V K 44 [(0, .ref 7), (1, .int (nI set)), (2, .int (nI k))] [] (z_s nl) I J 0 0 := by
        intro e2
        rw [e2] at e
        refine v_inc E dX2_firstOfLongest_44 rfl (by decide) ?_
        refine v_goto (tgt := 2) E dX2_firstOfLongest_47 (by decide) ?_
        exact ih (by rw [hq, e]; rfl)
      refine v_iload_n E dX2_firstOfLongest_2 rfl ?_
      refine v_aload_n E dX2_firstOfLongest_3 rfl ?_
      refine v_callV1 E dX2_firstOfLongest_4 k_X2_60 Y_X2_sortedCount (m_sorted d nl n I J hn h10) rfl rfl rfl (Nat.le_of_ble_eq_true rfl) ?_
      refine v_icmp_geN (tgt := 50) E dX2_firstOfLongest_7 (by decide) (by omega) (by omega) (fun c => ?_) (fun c => ?_)
      · exact absurd c (by omega)
      · refine v_iload_n E dX2_firstOfLongest_10 rfl ?_
        refine v_iload_n E dX2_firstOfLongest_11 rfl ?_
        refine v_callN1 E dX2_firstOfLongest_12 k_nN Y_X3_isIn (m_isIn (d + 1) (z_s nl) I J k set (by omega) (by omega)) rfl rfl (Nat.le_of_ble_eq_true rfl) ?_
        refine v_if_eqB (tgt := 44) E dX2_firstOfLongest_15 (by decide)  (fun c1 => ?_) (fun c1 => ?_)
        · exact skip (by rw [hPk, c1]; rfl)
        · have hlt := q_and_lts c1 (hirr k hk)
          have t1 := hTle (set &&& pt k)
          have t2 := hTle set
          refine v_iconst (v := nI 1) E dX2_firstOfLongest_18 (by decide) ?_
          refine v_aload_n E dX2_firstOfLongest_19 rfl ?_
          refine v_getR E f_X2_24 dX2_firstOfLongest_20 rfl rfl rfl ?_
          refine v_iload_n E dX2_firstOfLongest_23 rfl ?_
          refine v_aload_n E dX2_firstOfLongest_24 rfl ?_
          refine v_getR E f_X2_21 dX2_firstOfLongest_25 rfl rfl rfl ?_
          refine v_iload_n E dX2_firstOfLongest_28 rfl ?_
          refine v_ialoadE E dX2_firstOfLongest_29 rfl rfl (by omega) (by decide) (hO.1 k hk) ?_
          refine v_iandN E dX2_firstOfLongest_30 ?_
          refine v_ialoadE E dX2_firstOfLongest_31 rfl rfl (show set &&& pt k < 1024 by omega) (by decide) (hO.2 _ (by omega)) ?_
          refine v_iaddN E dX2_firstOfLongest_32 ?_
          refine v_aload_n E dX2_firstOfLongest_33 rfl ?_
          refine v_getR E f_X2_24 dX2_firstOfLongest_34 rfl rfl rfl ?_
          refine v_iload_n E dX2_firstOfLongest_37 rfl ?_
          refine v_ialoadE E dX2_firstOfLongest_38 rfl rfl (by omega) (by decide) (hO.2 set hs) ?_
          refine v_icmp_neN (tgt := 44) E dX2_firstOfLongest_39 (by decide) (by omega) (by omega) (fun c2 => ?_) (fun c2 => ?_)
          · exact skip (by rw [hPk, c1, decide_eq_false c2]; rfl)
          · refine v_iload_n E dX2_firstOfLongest_42 rfl ?_
            have e2 : P k = true := by rw [hPk, c1, decide_eq_true c2]; rfl
            rw [e2] at e
            exact v_iret E X dX2_firstOfLongest_43 (z_qi (by rw [hq, e]; rfl))
  exact loop 0 (by omega) (by rw [Nat.sub_zero])
def r_orderN (s : zS) (k : Nat) : Nat := o_1st (s_pt s) (s_nd s).length (o_set (s_pt s) (s_nd s).length k)
theorem m_inTheOrder (d : Nat) (s : zS) (hw : s_wf s) (I : zI) (J : zJ) (hN : ndI s (s_nd s) I) (h10 : (s_nd s).length ≤ 10) (x : Int32) : z_C yX2_inTheOrder cX2_inTheOrder 4 (some .int) (d + 5) [.ref 7, .int x] (z_s (s_nl s)) I J 0 0 (fun r h' I' J' => r = some (.int (if z_isx x (r_longest s) then nI (r_orderN s x.toNatClampNeg) else -1)) ∧ h' = z_s (s_nl s) ∧ foI I I' ∧ J' = J) := by
  have hp2 := p2n h10
  have hpp := Nat.two_pow_pos (s_nd s).length
  have hirr := s_pt_irr s
  have hll : r_longest s < 1024 := by
    have := o_T_le hirr (2 ^ (s_nd s).length - 1)
    unfold r_longest
    omega
  refine z_C.of (by decide) (Nat.le_of_ble_eq_true rfl) fun K E X => ?_
  have no : z_isx x (r_longest s) = false → ∀ I', foI I I' → z_V K 12 [(0, .ref 7), (1, .int x)] [] (z_s (s_nl s)) I' J 0 0 := by
    intro e I' hf
    refine v_iconst (v := -1) E dX2_inTheOrder_12 (by decide) ?_
    exact v_iret E X dX2_inTheOrder_13 ⟨by rw [e]; rfl, rfl, hf, rfl⟩
  refine v_iload_n E dX2_inTheOrder_0 rfl ?_
  refine v_if_lt (tgt := 12) E dX2_inTheOrder_1 (by decide)  (fun k1 => ?_) (fun k1 => ?_)
  · exact no (decide_eq_false (fun z => z.1 k1)) I (fun _ _ _ => rfl)
  · refine v_iload_n E dX2_inTheOrder_4 rfl ?_
    refine v_aload_n E dX2_inTheOrder_5 rfl ?_
    refine v_callV E dX2_inTheOrder_6 k_X2_38 Y_X2_longestOrder (m_longestOrder d s hw I J hN h10) rfl rfl rfl (Nat.le_of_ble_eq_true rfl) ?_
    rintro r h' I' J' ⟨rfl, rfl, g1, g2, rfl⟩
    refine v_icmp_lt (tgt := 14) E dX2_inTheOrder_9 (by decide)  (fun k2 => ?_) (fun k2 => ?_)
    · have e : z_isx x (r_longest s) = true := decide_eq_true ⟨k1, k2⟩
      have e9 := e
      obtain ⟨a, ha, rfl⟩ := z_isx_true (by omega) e
      have hN' := ndI_fo hN g2
      have hnpos : 0 < (s_nd s).length := by
        rcases Nat.eq_zero_or_pos (s_nd s).length with h0 | h0
        · unfold r_longest at ha
          have := o_T_le hirr (2 ^ (s_nd s).length - 1)
          rw [h0] at this ha
          have h5 : o_T (s_pt s) 0 (2 ^ 0 - 1) ≤ 0 := this
          exact absurd (Nat.lt_of_lt_of_le ha h5) (Nat.not_lt_zero _)
        · exact h0
      refine v_aload_n E dX2_inTheOrder_14 rfl ?_
      refine v_callV1 E dX2_inTheOrder_15 k_X2_34 Y_X2_allNeeds (m_allNeeds (d + 2) (s_nl s) _ I' J' hN'.1 h10) rfl rfl rfl (Nat.le_of_ble_eq_true rfl) ?_
      refine v_istore_n E dX2_inTheOrder_18 (by decide) ?_
      refine v_iconst (v := nI 0) E dX2_inTheOrder_19 (by decide) ?_
      refine v_istore_n E dX2_inTheOrder_20 (by decide) ?_
      have loop : ∀ k, k ≤ a → z_V K 21 [(0, .ref 7), (1, .int (nI a)), (2, .int (nI (o_set (s_pt s) (s_nd s).length k))), (3, .int (nI k))] [] (z_s (s_nl s)) I' J' 0 0 := by
        refine z_for a ?_ (fun k hk ih => ?_)
        · refine v_iload_n E dX2_inTheOrder_21 rfl ?_
          refine v_iload_n E dX2_inTheOrder_22 rfl ?_
          refine v_icmp_geN (tgt := 45) E dX2_inTheOrder_23 (by decide) (by omega) (by omega) (fun c => ?_) (fun c => ?_)
          · refine v_aload_n E dX2_inTheOrder_45 rfl ?_
            refine v_iload_n E dX2_inTheOrder_46 rfl ?_
            refine v_callV1 E dX2_inTheOrder_47 k_X2_41 Y_X2_firstOfLongest (m_firstOfLongest (d + 2) (s_nl s) _ (s_pt s) I' J' hN'.1 h10 g1 hirr _ (o_set_lt _ _ a)) rfl rfl rfl (Nat.le_of_ble_eq_true rfl) ?_
            exact v_iret E X dX2_inTheOrder_50 ⟨by rw [e9, nI_clamp (by omega)]; rfl, rfl, g2, rfl⟩
          · exact absurd c (by omega)
        · have hf : o_1st (s_pt s) (s_nd s).length (o_set (s_pt s) (s_nd s).length k) < (s_nd s).length := o_ff_lt (by omega) hnpos
          refine v_iload_n E dX2_inTheOrder_21 rfl ?_
          refine v_iload_n E dX2_inTheOrder_22 rfl ?_
          refine v_icmp_geN (tgt := 45) E dX2_inTheOrder_23 (by decide) (by omega) (by omega) (fun c => ?_) (fun c => ?_)
          · exact absurd c (by omega)
          · refine v_iload_n E dX2_inTheOrder_26 rfl ?_
            refine v_aload_n E dX2_inTheOrder_27 rfl ?_
            refine v_getR E f_X2_21 dX2_inTheOrder_28 rfl rfl rfl ?_
            refine v_aload_n E dX2_inTheOrder_31 rfl ?_
            refine v_iload_n E dX2_inTheOrder_32 rfl ?_
            refine v_callV1 E dX2_inTheOrder_33 k_X2_41 Y_X2_firstOfLongest (m_firstOfLongest (d + 2) (s_nl s) _ (s_pt s) I' J' hN'.1 h10 g1 hirr _ (o_set_lt _ _ k)) rfl rfl rfl (Nat.le_of_ble_eq_true rfl) ?_
            refine v_ialoadE E dX2_inTheOrder_36 rfl rfl (by omega) (by decide) (g1.1 _ hf) ?_
            refine v_iandN E dX2_inTheOrder_37 ?_
            refine v_istore_n E dX2_inTheOrder_38 (by decide) ?_
            refine v_inc E dX2_inTheOrder_39 rfl (by decide) ?_
            refine v_goto (tgt := 21) E dX2_inTheOrder_42 (by decide) ?_
            exact ih
      exact loop 0 (by omega)
    · exact no (decide_eq_false (fun z => k2 z.2)) I' g2
def r_below (s : zS) : Int32 := if (s_nd s).length ≤ 10 then nI (r_longest s) else -5
def r_order (s : zS) (x : Int32) : Int32 := if (s_nd s).length ≤ 10 then (if z_isx x (r_longest s) then nI (r_orderN s x.toNatClampNeg) else -1) else -1
theorem fo_cI {s : zS} {I I' I2 : zI} {J : zJ} (hc : cI s I J) (h : fnI I I') (h2 : foI I' I2) : cI s I2 J := cI_scr hc (fun q hq => by rw [h2 q (by omega) (by omega)]; exact h q (by omega) (by omega) (by omega) (by omega)) (fun _ _ => rfl)
theorem fo_mF {I I' I2 : zI} {J : zJ} (h : fnI I I') (h2 : foI I' I2) : mFr I J I2 J := fun q q1 q2 => ⟨by rw [h2 q (by omega) (by omega)]; exact h q (by omega) (by omega) (by omega) (by omega), rfl⟩
theorem m_below (d : Nat) (s : zS) (hw : s_wf s) (I : zI) (J : zJ) (hc : cI s I J) : z_C yX3_below cX3_below 1 (some .int) (d + 5) [.ref 1] (z_s (s_nl s)) I J 0 0 (cR s (r_below s) I J) := by
  have hlen := s_nd_len hw
  refine z_C.of (by decide) (Nat.le_of_ble_eq_true rfl) fun K E X => ?_
  refine v_aload_n E dX3_below_0 rfl ?_
  refine v_callV E dX3_below_1 k_X3_156 Y_X3_findNeeds (m_findNeeds (d + 1) s hw I J hc) rfl rfl rfl (Nat.le_of_ble_eq_true rfl) ?_
  rintro r h' I' J' ⟨rfl, rfl, g1, g2, rfl⟩
  refine v_aload_n E dX3_below_4 rfl ?_
  refine v_getR E f_X3_33 dX3_below_5 rfl rfl rfl ?_
  refine v_callV1 E dX3_below_8 k_X3_167 Y_X2_canBeSorted (m_canBeSorted (d + 4) (s_nl s) _ I' J' g1.1 hlen) rfl rfl rfl (Nat.le_of_ble_eq_true rfl) ?_
  refine v_if_eqB (tgt := 24) E dX3_below_11 (by decide)  (fun e => ?_) (fun e => ?_)
  · refine v_bipush (v := -5) E dX3_below_24 (by decide) ?_
    exact v_iret E X dX3_below_26 ⟨by unfold r_below; rw [if_neg (of_decide_eq_false e)], rfl, fn_cI hc g2, fn_mF g2⟩
  · have h10 := of_decide_eq_true e
    refine v_aload_n E dX3_below_14 rfl ?_
    refine v_getR E f_X3_33 dX3_below_15 rfl rfl rfl ?_
    refine v_callV E dX3_below_18 k_X3_171 Y_X2_longestOrder (m_longestOrder d s hw I' J' g1 h10) rfl rfl rfl (Nat.le_of_ble_eq_true rfl) ?_
    rintro r h' I2 J2 ⟨rfl, rfl, g3, g4, rfl⟩
    refine v_goto (tgt := 26) E dX3_below_21 (by decide) ?_
    exact v_iret E X dX3_below_26 ⟨by unfold r_below; rw [if_pos h10], rfl, fo_cI hc g2 g4, fo_mF g2 g4⟩
theorem m_order (d : Nat) (s : zS) (hw : s_wf s) (I : zI) (J : zJ) (hc : cI s I J) (x : Int32) : z_C yX3_order cX3_order 2 (some .int) (d + 6) [.ref 1, .int x] (z_s (s_nl s)) I J 0 0 (cR s (r_order s x) I J) := by
  have hlen := s_nd_len hw
  refine z_C.of (by decide) (Nat.le_of_ble_eq_true rfl) fun K E X => ?_
  refine v_aload_n E dX3_order_0 rfl ?_
  refine v_callV E dX3_order_1 k_X3_156 Y_X3_findNeeds (m_findNeeds (d + 2) s hw I J hc) rfl rfl rfl (Nat.le_of_ble_eq_true rfl) ?_
  rintro r h' I' J' ⟨rfl, rfl, g1, g2, rfl⟩
  refine v_aload_n E dX3_order_4 rfl ?_
  refine v_getR E f_X3_33 dX3_order_5 rfl rfl rfl ?_
  refine v_callV1 E dX3_order_8 k_X3_167 Y_X2_canBeSorted (m_canBeSorted (d + 5) (s_nl s) _ I' J' g1.1 hlen) rfl rfl rfl (Nat.le_of_ble_eq_true rfl) ?_
  refine v_if_eqB (tgt := 25) E dX3_order_11 (by decide)  (fun e => ?_) (fun e => ?_)
  · refine v_iconst (v := -1) E dX3_order_25 (by decide) ?_
    exact v_iret E X dX3_order_26 ⟨by unfold r_order; rw [if_neg (of_decide_eq_false e)], rfl, fn_cI hc g2, fn_mF g2⟩
  · have h10 := of_decide_eq_true e
    refine v_aload_n E dX3_order_14 rfl ?_
    refine v_getR E f_X3_33 dX3_order_15 rfl rfl rfl ?_
    refine v_iload_n E dX3_order_18 rfl ?_
    refine v_callV E dX3_order_19 k_X3_174 Y_X2_inTheOrder (m_inTheOrder d s hw I' J' g1 h10 x) rfl rfl rfl (Nat.le_of_ble_eq_true rfl) ?_
    rintro r h' I2 J2 ⟨rfl, rfl, g4, rfl⟩
    refine v_goto (tgt := 26) E dX3_order_22 (by decide) ?_
    exact v_iret E X dX3_order_26 ⟨by unfold r_order; rw [if_pos h10], rfl, fo_cI hc g2 g4, fo_mF g2 g4⟩
