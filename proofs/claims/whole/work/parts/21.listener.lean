/-! OneCall$Listener -/
/-- row k of rows given newest first -/
def l_row : List Nat → Nat → Nat
  | [], _ => 0
  | r :: rs, k => if k = rs.length then r else l_row rs k
theorem l_row_lt {rs : List Nat} (h : ∀ r ∈ rs, r < 1024) (k : Nat) : l_row rs k < 1024 := by
  induction rs with
  | nil => exact Nat.zero_lt_succ _
  | cons r rs ih =>
    simp only [l_row]
    split
    · exact h r List.mem_cons_self
    · exact ih (fun x hx => h x (List.mem_cons_of_mem _ hx))
theorem l_cons_lt {rs : List Nat} {m : Nat} (h : ∀ r ∈ rs, r < 1024) (hm : m < 1024) : ∀ r ∈ m :: rs, r < 1024 := by
  intro r hr
  rcases List.mem_cons.mp hr with rfl | hr
  · exact hm
  · exact h r hr
def zLs (h : zH) (a : Nat) : Prop := (h.2.1 a).1 = 2 ∧ h.2.1 (a + 1) = (10, 52) ∧ zKn h (a + 2) ∧ h.2.2 a 1 = some (a + 1) ∧ h.2.2 a 2 = some (a + 2)
/-- what the cells of a listener hold: kind, rows, how many it has, the pieces that it has, what it wants, the calls that it heard, whether it is off -/
def lsI (I : zI) (J : zJ) (a kd : Nat) (rs : List Nat) (hm hp wt hc : Nat) (off : Bool) : Prop :=
  I a 0 = nI kd ∧ I a 3 = nI rs.length ∧ I a 4 = nI hm ∧ I a 5 = nI hp ∧ I a 6 = nI wt ∧ J a 7 = lN hc ∧ I a 8 = nI off.toNat ∧ (∀ k, k < rs.length → I (a + 1) k = nI (l_row rs k)) ∧ kI I (a + 2) (l_f rs) (l_rk rs) ∧ kJ J (a + 2) (l_b rs)
/-- bounds that hold of every listener -/
def lsB (kd : Nat) (rs : List Nat) (hm hp wt : Nat) : Prop := kd < 5 ∧ (∀ r ∈ rs, r < 1024) ∧ rs.length ≤ 52 ∧ hm ≤ rs.length ∧ hp < 1024 ∧ wt < 1024
def lFr (a : Nat) (I : zI) (J : zJ) (I' : zI) (J' : zJ) : Prop := ∀ q, (q < a ∨ a + 4 < q) → I' q = I q ∧ J' q = J q
theorem m_mayHave (d : Nat) (h : zH) (I : zI) (J : zJ) (a : Nat) (hh : zLs h a) {kd : Nat} {rs : List Nat} {hm hp wt hc : Nat} {off : Bool} (hI : lsI I J a kd rs hm hp wt hc off) (hB : lsB kd rs hm hp wt) (m : Nat) (hm1 : m < 1024) : z_C yX1_mayHave cX1_mayHave 3 (some .boolean) (d + 1) [.ref a, .int (nI m)] h I J 0 0 (z_q (some (.int (nI (decide ((kd = 3 ∨ q_pop m = 1) ∧ ∀ k, k < hm → l_row rs k ≠ m)).toNat))) h I J) := by
  obtain ⟨i0, i3, i4, i5, i6, i7, i8, ir, ik, ij⟩ := hI
  obtain ⟨b0, b1, b2, b3, b4, b5⟩ := hB
  have hpop : q_pop m < 1024 := Nat.lt_of_le_of_lt (List.length_filter_le _ _) (by simp)
  refine z_C.of (by decide) (Nat.le_of_ble_eq_true rfl) fun K E X => ?_
  have tail : (kd = 3 ∨ q_pop m = 1) → z_V K 18 [(0, .ref a), (1, .int (nI m))] [] h I J 0 0 := by
    intro hc0
    refine v_iconst (v := nI 0) E dX1_mayHave_18 (by decide) ?_
    refine v_istore_n E dX1_mayHave_19 (by decide) ?_
    have loop : ∀ k, k ≤ hm → (∀ j, j < k → l_row rs j ≠ m) → z_V K 20 [(0, .ref a), (1, .int (nI m)), (2, .int (nI k))] [] h I J 0 0 := by
      refine z_for hm ?_ (fun k hk ih => ?_)
      · intro hall
        refine v_iload_n E dX1_mayHave_20 rfl ?_
        refine v_aload_n E dX1_mayHave_21 rfl ?_
        refine v_getIE E f_X1_32 dX1_mayHave_22 hh.1 rfl i4 ?_
        refine v_icmp_geN (tgt := 46) E dX1_mayHave_25 (by decide) (by omega) (by omega) (fun c => ?_) (fun c => ?_)
        · refine v_iconst (v := nI 1) E dX1_mayHave_46 (by decide) ?_
          exact v_zret E X dX1_mayHave_47 (by first | exact Or.inl rfl | exact Or.inr rfl) (z_qi (by rw [decide_eq_true ⟨hc0, hall⟩]; rfl))
        · exact absurd c (by omega)
      · intro hall
        have hlr := l_row_lt b1 k
        refine v_iload_n E dX1_mayHave_20 rfl ?_
        refine v_aload_n E dX1_mayHave_21 rfl ?_
        refine v_getIE E f_X1_32 dX1_mayHave_22 hh.1 rfl i4 ?_
        refine v_icmp_geN (tgt := 46) E dX1_mayHave_25 (by decide) (by omega) (by omega) (fun c => ?_) (fun c => ?_)
        · exact absurd c (by omega)
        · refine v_aload_n E dX1_mayHave_28 rfl ?_
          refine v_getR E f_X1_15 dX1_mayHave_29 hh.1 rfl hh.2.2.2.1 ?_
          refine v_iload_n E dX1_mayHave_32 rfl ?_
          refine v_ialoadE E dX1_mayHave_33 hh.2.1 rfl (by omega) (by decide) (ir k (by omega)) ?_
          refine v_iload_n E dX1_mayHave_34 rfl ?_
          refine v_icmp_neN (tgt := 40) E dX1_mayHave_35 (by decide) (by omega) (by omega) (fun c1 => ?_) (fun c1 => ?_)
          · refine v_inc E dX1_mayHave_40 rfl (by decide) ?_
            refine v_goto (tgt := 20) E dX1_mayHave_43 (by decide) ?_
            refine ih (fun j hj => ?_)
            by_cases e : j = k
            · subst e
              exact c1
            · exact hall j (by omega)
          · refine v_iconst (v := nI 0) E dX1_mayHave_38 (by decide) ?_
            exact v_zret E X dX1_mayHave_39 (by first | exact Or.inl rfl | exact Or.inr rfl) (z_qi (by rw [decide_eq_false (fun z => z.2 k hk c1)]; rfl))
    exact loop 0 (by omega) (fun j hj => absurd hj (by omega))
  refine v_aload_n E dX1_mayHave_0 rfl ?_
  refine v_getIE E f_X1_9 dX1_mayHave_1 hh.1 rfl i0 ?_
  refine v_iconst (v := nI 3) E dX1_mayHave_4 (by decide) ?_
  refine v_icmp_eqN (tgt := 18) E dX1_mayHave_5 (by decide) (by omega) (by omega) (fun c => ?_) (fun c => ?_)
  · exact tail (Or.inl c)
  · refine v_iload_n E dX1_mayHave_8 rfl ?_
    refine v_callS1 E dX1_mayHave_9 k_X1_26 Y_J6_bitCount_0f7a4 (m_bitCount d h I J m hm1) rfl rfl (Nat.le_of_ble_eq_true rfl) ?_
    refine v_iconst (v := nI 1) E dX1_mayHave_12 (by decide) ?_
    refine v_icmp_eqN (tgt := 18) E dX1_mayHave_13 (by decide) (by omega) (by omega) (fun c1 => ?_) (fun c1 => ?_)
    · exact tail (Or.inr c1)
    · refine v_iconst (v := nI 0) E dX1_mayHave_16 (by decide) ?_
      exact v_zret E X dX1_mayHave_17 (by first | exact Or.inl rfl | exact Or.inr rfl) (z_qi (by rw [decide_eq_false (fun z => z.1.elim c c1)]; rfl))
theorem m_isEven (d : Nat) (h : zH) (I : zI) (J : zJ) (a : Nat) (hh : zLs h a) {kd : Nat} {rs : List Nat} {hm hp wt hc : Nat} {off : Bool} (hI : lsI I J a kd rs hm hp wt hc off) (hB : lsB kd rs hm hp wt) (m : Nat) (hm1 : m < 1024) : z_C yX1_isEvenInAllRows cX1_isEvenInAllRows 3 (some .boolean) (d + 1) [.ref a, .int (nI m)] h I J 0 0 (z_q (some (.int (nI (decide (∀ k, k < rs.length → q_pop (l_row rs k &&& m) % 2 = 0)).toNat))) h I J) := by
  obtain ⟨i0, i3, i4, i5, i6, i7, i8, ir, ik, ij⟩ := hI
  obtain ⟨b0, b1, b2, b3, b4, b5⟩ := hB
  refine z_C.of (by decide) (Nat.le_of_ble_eq_true rfl) fun K E X => ?_
  refine v_iconst (v := nI 0) E dX1_isEvenInAllRows_0 (by decide) ?_
  refine v_istore_n E dX1_isEvenInAllRows_1 (by decide) ?_
  have loop : ∀ k, k ≤ rs.length → (∀ j, j < k → q_pop (l_row rs j &&& m) % 2 = 0) → z_V K 2 [(0, .ref a), (1, .int (nI m)), (2, .int (nI k))] [] h I J 0 0 := by
    refine z_for rs.length ?_ (fun k hk ih => ?_)
    · intro hall
      refine v_iload_n E dX1_isEvenInAllRows_2 rfl ?_
      refine v_aload_n E dX1_isEvenInAllRows_3 rfl ?_
      refine v_getIE E f_X1_46 dX1_isEvenInAllRows_4 hh.1 rfl i3 ?_
      refine v_icmp_geN (tgt := 34) E dX1_isEvenInAllRows_7 (by decide) (by omega) (by omega) (fun c => ?_) (fun c => ?_)
      · refine v_iconst (v := nI 1) E dX1_isEvenInAllRows_34 (by decide) ?_
        exact v_zret E X dX1_isEvenInAllRows_35 (by first | exact Or.inl rfl | exact Or.inr rfl) (z_qi (by rw [decide_eq_true hall]; rfl))
      · exact absurd c (by omega)
    · intro hall
      have hlr := q_and_lt (k := 10) (b := m) (l_row_lt b1 k)
      refine v_iload_n E dX1_isEvenInAllRows_2 rfl ?_
      refine v_aload_n E dX1_isEvenInAllRows_3 rfl ?_
      refine v_getIE E f_X1_46 dX1_isEvenInAllRows_4 hh.1 rfl i3 ?_
      refine v_icmp_geN (tgt := 34) E dX1_isEvenInAllRows_7 (by decide) (by omega) (by omega) (fun c => ?_) (fun c => ?_)
      · exact absurd c (by omega)
      · refine v_aload_n E dX1_isEvenInAllRows_10 rfl ?_
        refine v_getR E f_X1_15 dX1_isEvenInAllRows_11 hh.1 rfl hh.2.2.2.1 ?_
        refine v_iload_n E dX1_isEvenInAllRows_14 rfl ?_
        refine v_ialoadE E dX1_isEvenInAllRows_15 hh.2.1 rfl (by omega) (by decide) (ir k (by omega)) ?_
        refine v_iload_n E dX1_isEvenInAllRows_16 rfl ?_
        refine v_iandN E dX1_isEvenInAllRows_17 ?_
        refine v_callS1 E dX1_isEvenInAllRows_18 k_X1_26 Y_J6_bitCount_0f7a4 (m_bitCount d h I J _ hlr) rfl rfl (Nat.le_of_ble_eq_true rfl) ?_
        refine v_iconst (v := nI 1) E dX1_isEvenInAllRows_21 (by decide) ?_
        refine v_iandN E dX1_isEvenInAllRows_22 ?_
        refine v_top (show nI (q_pop (l_row rs k &&& m) &&& 1) = nI (q_pop (l_row rs k &&& m) % 2) by rw [q_a1]) ?_
        refine v_if_eqN (tgt := 28) E dX1_isEvenInAllRows_23 (by decide) (by omega) (fun c1 => ?_) (fun c1 => ?_)
        · refine v_inc E dX1_isEvenInAllRows_28 rfl (by decide) ?_
          refine v_goto (tgt := 2) E dX1_isEvenInAllRows_31 (by decide) ?_
          refine ih (fun j hj => ?_)
          by_cases e : j = k
          · subst e
            exact c1
          · exact hall j (by omega)
        · refine v_iconst (v := nI 0) E dX1_isEvenInAllRows_26 (by decide) ?_
          exact v_zret E X dX1_isEvenInAllRows_27 (by first | exact Or.inl rfl | exact Or.inr rfl) (z_qi (by rw [decide_eq_false (fun z => by have := z k hk; omega)]; rfl))
  exact loop 0 (by omega) (fun j hj => absurd hj (by omega))
/-- is a listener served that has worked out the pieces wo? -/
def l_sv (kd hp wt wo all : Nat) : Bool := if kd = 2 then decide (hp = all) || decide (q_df wo hp ≠ 0) else decide (q_df wt wo = 0)
theorem m_isServedWith (d : Nat) (h : zH) (I : zI) (J : zJ) (a : Nat) (hh : zLs h a) {kd hp wt : Nat} (i0 : I a 0 = nI kd) (i5 : I a 5 = nI hp) (i6 : I a 6 = nI wt) (b0 : kd < 5) (b4 : hp < 1024) (b5 : wt < 1024) (wo all : Nat) (hwo : wo < 1024) (hall : all < 1024) : z_C yX1_isServedWith cX1_isServedWith 3 (some .boolean) d [.ref a, .int (nI wo), .int (nI all)] h I J 0 0 (z_q (some (.int (nI (l_sv kd hp wt wo all).toNat))) h I J) := by
  have h1 := q_df_lt (k := 10) (b := hp) hwo
  have h2 := q_df_lt (k := 10) (b := wo) b5
  refine z_C.of (by decide) (Nat.le_of_ble_eq_true rfl) fun K E X => ?_
  refine v_aload_n E dX1_isServedWith_0 rfl ?_
  refine v_getIE E f_X1_9 dX1_isServedWith_1 hh.1 rfl i0 ?_
  refine v_iconst (v := nI 2) E dX1_isServedWith_4 (by decide) ?_
  refine v_icmp_neN (tgt := 33) E dX1_isServedWith_5 (by decide) (by omega) (by omega) (fun c => ?_) (fun c => ?_)
  · refine v_aload_n E dX1_isServedWith_33 rfl ?_
    refine v_getIE E f_X1_64 dX1_isServedWith_34 hh.1 rfl i6 ?_
    refine v_iload_n E dX1_isServedWith_37 rfl ?_
    refine v_iconst (v := -1) E dX1_isServedWith_38 (by decide) ?_
    refine v_ixor E dX1_isServedWith_39 ?_
    refine v_iand E dX1_isServedWith_40 ?_
    refine v_top (q_dif wt wo) ?_
    refine v_if_neN (tgt := 48) E dX1_isServedWith_41 (by decide) (by omega) (fun c1 => ?_) (fun c1 => ?_)
    · refine v_iconst (v := nI 0) E dX1_isServedWith_48 (by decide) ?_
      exact v_zret E X dX1_isServedWith_49 (by first | exact Or.inl rfl | exact Or.inr rfl) (z_qi (by unfold l_sv; rw [if_neg c, decide_eq_false (by omega)]; rfl))
    · refine v_iconst (v := nI 1) E dX1_isServedWith_44 (by decide) ?_
      refine v_goto (tgt := 49) E dX1_isServedWith_45 (by decide) ?_
      exact v_zret E X dX1_isServedWith_49 (by first | exact Or.inl rfl | exact Or.inr rfl) (z_qi (by unfold l_sv; rw [if_neg c, decide_eq_true c1]; rfl))
  · refine v_aload_n E dX1_isServedWith_8 rfl ?_
    refine v_getIE E f_X1_39 dX1_isServedWith_9 hh.1 rfl i5 ?_
    refine v_iload_n E dX1_isServedWith_12 rfl ?_
    refine v_icmp_eqN (tgt := 27) E dX1_isServedWith_13 (by decide) (by omega) (by omega) (fun c1 => ?_) (fun c1 => ?_)
    · refine v_iconst (v := nI 1) E dX1_isServedWith_27 (by decide) ?_
      refine v_goto (tgt := 32) E dX1_isServedWith_28 (by decide) ?_
      exact v_zret E X dX1_isServedWith_32 (by first | exact Or.inl rfl | exact Or.inr rfl) (z_qi (by unfold l_sv; rw [if_pos c, decide_eq_true c1]; rfl))
    · refine v_iload_n E dX1_isServedWith_16 rfl ?_
      refine v_aload_n E dX1_isServedWith_17 rfl ?_
      refine v_getIE E f_X1_39 dX1_isServedWith_18 hh.1 rfl i5 ?_
      refine v_iconst (v := -1) E dX1_isServedWith_21 (by decide) ?_
      refine v_ixor E dX1_isServedWith_22 ?_
      refine v_iand E dX1_isServedWith_23 ?_
      refine v_top (q_dif wo hp) ?_
      refine v_if_eqN (tgt := 31) E dX1_isServedWith_24 (by decide) (by omega) (fun c2 => ?_) (fun c2 => ?_)
      · refine v_iconst (v := nI 0) E dX1_isServedWith_31 (by decide) ?_
        exact v_zret E X dX1_isServedWith_32 (by first | exact Or.inl rfl | exact Or.inr rfl) (z_qi (by unfold l_sv; rw [if_pos c, decide_eq_false c1, decide_eq_false (by omega)]; rfl))
      · refine v_iconst (v := nI 1) E dX1_isServedWith_27 (by decide) ?_
        refine v_goto (tgt := 32) E dX1_isServedWith_28 (by decide) ?_
        exact v_zret E X dX1_isServedWith_32 (by first | exact Or.inl rfl | exact Or.inr rfl) (z_qi (by unfold l_sv; rw [if_pos c, decide_eq_false c1, decide_eq_true (by omega)]; rfl))
theorem m_isServedBy (d : Nat) (h : zH) (I : zI) (J : zJ) (a b : Nat) (hh : zLs h a) (hk : zKn h b) {kd hp wt : Nat} (i0 : I a 0 = nI kd) (i5 : I a 5 = nI hp) (i6 : I a 6 = nI wt) (b0 : kd < 5) (b4 : hp < 1024) (b5 : wt < 1024) (f : Nat → Nat) (hf : ∀ p, p < 10 → I (b + 1) p = nI (f p)) (hl : ∀ p, p < 10 → f p < 1024) (all : Nat) (hall : all < 1024) : z_C yX1_isServedBy cX1_isServedBy 3 (some .boolean) (d + 2) [.ref a, .ref b, .int (nI all)] h I J 0 0 (z_q (some (.int (nI (l_sv kd hp wt (l_wo f 0 10) all).toNat))) h I J) := by
  refine z_C.of (by decide) (Nat.le_of_ble_eq_true rfl) fun K E X => ?_
  refine v_aload_n E dX1_isServedBy_0 rfl ?_
  refine v_aload_n E dX1_isServedBy_1 rfl ?_
  refine v_callV1 E dX1_isServedBy_2 k_X1_53 Y_X0_workedOut (m_workedOut d h I J b hk f hf hl) hk.1 rfl rfl (Nat.le_of_ble_eq_true rfl) ?_
  refine v_iload_n E dX1_isServedBy_5 rfl ?_
  refine v_callV1 E dX1_isServedBy_6 k_X1_57 Y_X1_isServedWith (m_isServedWith (d + 1) h I J a hh i0 i5 i6 b0 b4 b5 (l_wo f 0 10) all (l_wo_lt f 0 10) hall) hh.1 rfl rfl (Nat.le_of_ble_eq_true rfl) ?_
  exact v_zret E X dX1_isServedBy_9 (by cases l_sv kd hp wt (l_wo f 0 10) all <;> first | exact Or.inl rfl | exact Or.inr rfl) z_qq
theorem m_wouldBe (d : Nat) (h : zH) (I : zI) (J : zJ) (a : Nat) (hh : zLs h a) {kd hp wt : Nat} (i0 : I a 0 = nI kd) (i5 : I a 5 = nI hp) (i6 : I a 6 = nI wt) (b0 : kd < 5) (b4 : hp < 1024) (b5 : wt < 1024) (f : Nat → Nat) (hf : ∀ p, p < 10 → I (a + 2 + 1) p = nI (f p)) (hl : ∀ p, p < 10 → f p < 1024) (g all : Nat) (hg : g < 1024) (hall : all < 1024) : z_C yX1_wouldBeServedBy cX1_wouldBeServedBy 3 (some .boolean) (d + 1) [.ref a, .int (nI g), .int (nI all)] h I J 0 0 (z_q (some (.int (nI (l_sv kd hp wt (l_wo f g 10) all).toNat))) h I J) := by
  refine z_C.of (by decide) (Nat.le_of_ble_eq_true rfl) fun K E X => ?_
  refine v_aload_n E dX1_wouldBeServedBy_0 rfl ?_
  refine v_aload_n E dX1_wouldBeServedBy_1 rfl ?_
  refine v_getR E f_X1_22 dX1_wouldBeServedBy_2 hh.1 rfl hh.2.2.2.2 ?_
  refine v_iload_n E dX1_wouldBeServedBy_5 rfl ?_
  refine v_callV1 E dX1_wouldBeServedBy_6 k_X1_61 Y_X0_workedOutWith (m_workedOutWith d h I J (a + 2) hh.2.2.1 f hf hl g hg) hh.2.2.1.1 rfl rfl (Nat.le_of_ble_eq_true rfl) ?_
  refine v_iload_n E dX1_wouldBeServedBy_9 rfl ?_
  refine v_callV1 E dX1_wouldBeServedBy_10 k_X1_57 Y_X1_isServedWith (m_isServedWith d h I J a hh i0 i5 i6 b0 b4 b5 (l_wo f g 10) all (l_wo_lt f g 10) hall) hh.1 rfl rfl (Nat.le_of_ble_eq_true rfl) ?_
  exact v_zret E X dX1_wouldBeServedBy_13 (by cases l_sv kd hp wt (l_wo f g 10) all <;> first | exact Or.inl rfl | exact Or.inr rfl) z_qq
theorem q_b01 (b : Bool) : nI b.toNat = 0 ∨ nI b.toNat = 1 := by cases b <;> first | exact Or.inl rfl | exact Or.inr rfl
/-- a row is new if its rest isn't 0 -/
theorem l_new {rs : List Nat} (hr : ∀ r ∈ rs, r < 1024) {m : Nat} (hm : m < 1024) : decide (l_in (l_f rs) m ≠ 0) = !l_sp rs m := by
  have h := l_f_sp hr hm
  cases hs : l_sp rs m with
  | true => exact decide_eq_false (fun z => z (h.mpr hs))
  | false => exact decide_eq_true (fun z => by rw [h.mp z] at hs; cases hs)
theorem l_rk_cons (rs : List Nat) (m : Nat) : l_rk (m :: rs) = l_rk rs + (!l_sp rs m).toNat := by
  simp only [l_rk]
  cases l_sp rs m <;> rfl
theorem m_addRow (d : Nat) (h : zH) (I : zI) (J : zJ) (a : Nat) (hh : zLs h a) {kd : Nat} {rs : List Nat} {hm hp wt hc : Nat} {off : Bool} (hI : lsI I J a kd rs hm hp wt hc off) (hB : lsB kd rs hm hp wt) (m : Nat) (hm1 : m < 1024) (h52 : rs.length < 52) : z_C yX1_addRow cX1_addRow 2 (some .boolean) (d + 3) [.ref a, .int (nI m)] h I J 0 0 (fun r h' I' J' => r = some (.int (nI (!l_sp rs m).toNat)) ∧ h' = h ∧ lsI I' J' a kd (m :: rs) hm hp wt hc off ∧ lFr a I J I' J') := by
  obtain ⟨i0, i3, i4, i5, i6, i7, i8, ir, ik, ij⟩ := hI
  obtain ⟨b0, b1, b2, b3, b4, b5⟩ := hB
  refine z_C.of (by decide) (Nat.le_of_ble_eq_true rfl) fun K E X => ?_
  refine v_aload_n E dX1_addRow_0 rfl ?_
  refine v_getIE E f_X1_46 dX1_addRow_1 hh.1 rfl i3 ?_
  refine v_aload_n E dX1_addRow_4 rfl ?_
  refine v_getR E f_X1_15 dX1_addRow_5 hh.1 rfl hh.2.2.2.1 ?_
  refine v_arraylength E dX1_addRow_8 hh.2.1 (by decide) (by decide) rfl ?_
  refine v_icmp_ltN (tgt := 14) E dX1_addRow_9 (by decide) (by omega) (by omega) (fun c => ?_) (fun c => ?_)
  · refine v_aload_n E dX1_addRow_14 rfl ?_
    refine v_getR E f_X1_15 dX1_addRow_15 hh.1 rfl hh.2.2.2.1 ?_
    refine v_aload_n E dX1_addRow_18 rfl ?_
    refine v_getIE E f_X1_46 dX1_addRow_19 hh.1 rfl i3 ?_
    refine v_iload_n E dX1_addRow_22 rfl ?_
    refine v_iastore E dX1_addRow_23 hh.2.1 rfl h52 (by decide) ?_
    refine v_aload_n E dX1_addRow_24 rfl ?_
    refine v_dup E dX1_addRow_25 rfl ?_
    refine v_getIE E f_X1_46 dX1_addRow_26 hh.1 rfl (show z_u I (a + 1) _ _ a 3 = nI rs.length by rw [z_u_row (by omega)]; exact i3) ?_
    refine v_iconst (v := nI 1) E dX1_addRow_29 (by decide) ?_
    refine v_iaddN E dX1_addRow_30 ?_
    refine v_putI E f_X1_46 dX1_addRow_31 hh.1 rfl rfl rfl (by decide) ?_
    refine v_aload_n E dX1_addRow_34 rfl ?_
    refine v_getR E f_X1_22 dX1_addRow_35 hh.1 rfl hh.2.2.2.2 ?_
    refine v_iload_n E dX1_addRow_38 rfl ?_
    refine v_lconst (v := lN 1) E dX1_addRow_39 (by decide) ?_
    refine v_aload_n E dX1_addRow_40 rfl ?_
    refine v_getIE E f_X1_46 dX1_addRow_41 hh.1 rfl z_u_same ?_
    refine v_iconst (v := nI 1) E dX1_addRow_44 (by decide) ?_
    refine v_isubN E dX1_addRow_45 (by omega) ?_
    refine v_lshlN E dX1_addRow_46 (by omega) ?_
    have kI2 : kI (z_u (z_u I (a + 1) rs.length (nI m)) a 3 (nI (rs.length + 1))) (a + 2) (l_f rs) (l_rk rs) := by
      refine ⟨fun p hp => ?_, ?_⟩
      · rw [z_u_row (by omega), z_u_row (by omega)]
        exact ik.1 p hp
      · rw [z_u_row (by omega), z_u_row (by omega)]
        exact ik.2
    refine v_callV E dX1_addRow_47 k_X1_49 Y_X0_learn (m_learn d h _ J (a + 2) hh.2.2.1 (l_f rs) (l_b rs) (l_rk rs) kI2 (l_f_lt b1) ij m hm1 _) hh.2.2.1.1 rfl rfl (Nat.le_of_ble_eq_true rfl) ?_
    rintro r h I' J' ⟨rfl, rfl, g1, g2, g3, g4⟩
    have hnew := l_new b1 hm1
    have e1 : 1 * 2 ^ (rs.length + 1 - 1) = 2 ^ rs.length := by simp
    rw [e1] at g2
    rw [hnew] at g1
    have row : ∀ q, q ≠ a + 2 → q ≠ a + 3 → q ≠ a → q ≠ a + 1 → I' q = I q := fun q q1 q2 q3 q4 => by rw [g3 q q1 q2, z_u_row q3, z_u_row q4]
    have ra : ∀ j, j ≠ 3 → I' a j = I a j := fun j hj => by rw [g3 a (by omega) (by omega), z_u_col hj, z_u_row (by omega)]
    refine v_zret E X dX1_addRow_50 (q_b01 _) ⟨by rw [hnew], rfl, ⟨?_, ?_, ?_, ?_, ?_, ?_, ?_, ?_, ?_, ?_⟩, ?_⟩
    · rw [ra 0 (by decide)]; exact i0
    · rw [g3 a (by omega) (by omega), z_u_same]; rfl
    · rw [ra 4 (by decide)]; exact i4
    · rw [ra 5 (by decide)]; exact i5
    · rw [ra 6 (by decide)]; exact i6
    · rw [g4 a (by omega)]; exact i7
    · rw [ra 8 (by decide)]; exact i8
    · intro k hk
      rw [g3 (a + 1) (by omega) (by omega), z_u_row (by omega)]
      by_cases e : k = rs.length
      · subst e
        rw [z_u_same]
        simp [l_row]
      · rw [z_u_col e]
        simp only [l_row, if_neg e]
        exact ir k (by simp only [List.length_cons] at hk; omega)
    · rw [l_rk_cons]
      exact g1
    · exact g2
    · intro q hq
      refine ⟨row q (by omega) (by omega) (by omega) (by omega), g4 q (by omega)⟩
  · exact absurd c (by omega)
theorem m_getSum (d : Nat) (h : zH) (I : zI) (J : zJ) (a : Nat) (hh : zLs h a) {kd : Nat} {rs : List Nat} {hm hp wt hc : Nat} {off : Bool} (hI : lsI I J a kd rs hm hp wt hc off) (hB : lsB kd rs hm hp wt) (m : Nat) (hm1 : m < 1024) (h52 : rs.length < 52) : z_C yX1_getSum cX1_getSum 2 none (d + 4) [.ref a, .int (nI m)] h I J 0 0 (fun r h' I' J' => r = none ∧ h' = h ∧ lsI I' J' a kd (m :: rs) (hm + 1) (if q_pop m = 1 then hp ||| m else hp) wt hc off ∧ lFr a I J I' J') := by
  have hpop : q_pop m < 1024 := Nat.lt_of_le_of_lt (List.length_filter_le _ _) (by simp)
  refine z_C.of (by decide) (Nat.le_of_ble_eq_true rfl) fun K E X => ?_
  refine v_aload_n E dX1_getSum_0 rfl ?_
  refine v_iload_n E dX1_getSum_1 rfl ?_
  refine v_callV E dX1_getSum_2 k_X1_35 Y_X1_addRow (m_addRow d h I J a hh hI hB m hm1 h52) hh.1 rfl rfl (Nat.le_of_ble_eq_true rfl) ?_
  rintro r h I' J' ⟨rfl, rfl, ⟨i0, i3, i4, i5, i6, i7, i8, ir, ik, ij⟩, hfr⟩
  refine v_pop E dX1_getSum_5 rfl ?_
  refine v_aload_n E dX1_getSum_6 rfl ?_
  refine v_dup E dX1_getSum_7 rfl ?_
  refine v_getIE E f_X1_32 dX1_getSum_8 hh.1 rfl i4 ?_
  refine v_iconst (v := nI 1) E dX1_getSum_11 (by decide) ?_
  refine v_iaddN E dX1_getSum_12 ?_
  refine v_putI E f_X1_32 dX1_getSum_13 hh.1 rfl rfl rfl (by decide) ?_
  refine v_iload_n E dX1_getSum_16 rfl ?_
  refine v_callS1 E dX1_getSum_17 k_X1_26 Y_J6_bitCount_0f7a4 (m_bitCount (d + 3) h _ J' m hm1) rfl rfl (Nat.le_of_ble_eq_true rfl) ?_
  refine v_iconst (v := nI 1) E dX1_getSum_20 (by decide) ?_
  refine v_icmp_neN (tgt := 34) E dX1_getSum_21 (by decide) (by omega) (by omega) (fun c => ?_) (fun c => ?_)
  · refine v_vret E X dX1_getSum_34 ⟨rfl, rfl, ⟨?_, ?_, ?_, ?_, ?_, ?_, ?_, ?_, ?_, ?_⟩, ?_⟩
    · rw [z_u_col (by decide)]; exact i0
    · rw [z_u_col (by decide)]; exact i3
    · rw [z_u_same]
    · rw [z_u_col (by decide), if_neg c]; exact i5
    · rw [z_u_col (by decide)]; exact i6
    · exact i7
    · rw [z_u_col (by decide)]; exact i8
    · intro k hk; rw [z_u_row (by omega)]; exact ir k hk
    · exact ⟨fun p hp => by rw [z_u_row (by omega)]; exact ik.1 p hp, by rw [z_u_row (by omega)]; exact ik.2⟩
    · exact ij
    · intro q hq
      exact ⟨by rw [z_u_row (by omega)]; exact (hfr q hq).1, (hfr q hq).2⟩
  · refine v_aload_n E dX1_getSum_24 rfl ?_
    refine v_dup E dX1_getSum_25 rfl ?_
    refine v_getIE E f_X1_39 dX1_getSum_26 hh.1 rfl (show z_u I' a 4 _ a 5 = nI hp by rw [z_u_col (by decide)]; exact i5) ?_
    refine v_iload_n E dX1_getSum_29 rfl ?_
    refine v_iorN E dX1_getSum_30 ?_
    refine v_putI E f_X1_39 dX1_getSum_31 hh.1 rfl rfl rfl (by decide) ?_
    refine v_vret E X dX1_getSum_34 ⟨rfl, rfl, ⟨?_, ?_, ?_, ?_, ?_, ?_, ?_, ?_, ?_, ?_⟩, ?_⟩
    · rw [z_u_col (by decide), z_u_col (by decide)]; exact i0
    · rw [z_u_col (by decide), z_u_col (by decide)]; exact i3
    · rw [z_u_col (by decide), z_u_same]
    · rw [z_u_same, if_pos c]
    · rw [z_u_col (by decide), z_u_col (by decide)]; exact i6
    · exact i7
    · rw [z_u_col (by decide), z_u_col (by decide)]; exact i8
    · intro k hk; rw [z_u_row (by omega), z_u_row (by omega)]; exact ir k hk
    · exact ⟨fun p hp => by rw [z_u_row (by omega), z_u_row (by omega)]; exact ik.1 p hp, by rw [z_u_row (by omega), z_u_row (by omega)]; exact ik.2⟩
    · exact ij
    · intro q hq
      exact ⟨by rw [z_u_row (by omega), z_u_row (by omega)]; exact (hfr q hq).1, (hfr q hq).2⟩
theorem m_hear (d : Nat) (h : zH) (I : zI) (J : zJ) (a : Nat) (hh : zLs h a) {kd : Nat} {rs : List Nat} {hm hp wt hc : Nat} {off : Bool} (hI : lsI I J a kd rs hm hp wt hc off) (hB : lsB kd rs hm hp wt) (m : Nat) (hm1 : m < 1024) (h52 : rs.length < 52) (call : Nat) (hcall : call < 40) : z_C yX1_hear cX1_hear 3 (some .boolean) (d + 4) [.ref a, .int (nI m), .int (nI call)] h I J 0 0 (fun r h' I' J' => r = some (.int (nI (!l_sp rs m).toNat)) ∧ h' = h ∧ lsI I' J' a kd (m :: rs) hm hp wt (hc ||| 2 ^ call) off ∧ lFr a I J I' J') := by
  obtain ⟨i0, i3, i4, i5, i6, i7, i8, ir, ik, ij⟩ := hI
  refine z_C.of (by decide) (Nat.le_of_ble_eq_true rfl) fun K E X => ?_
  refine v_aload_n E dX1_hear_0 rfl ?_
  refine v_dup E dX1_hear_1 rfl ?_
  refine v_getJE E f_X1_42 dX1_hear_2 hh.1 rfl i7 ?_
  refine v_lconst (v := lN 1) E dX1_hear_5 (by decide) ?_
  refine v_iload_n E dX1_hear_6 rfl ?_
  refine v_lshlN E dX1_hear_7 (by omega) ?_
  refine v_lorN E dX1_hear_8 ?_
  refine v_putJ E f_X1_42 dX1_hear_9 hh.1 rfl rfl rfl (by decide) ?_
  refine v_aload_n E dX1_hear_12 rfl ?_
  refine v_iload_n E dX1_hear_13 rfl ?_
  have hI2 : lsI I (z_u J a 7 (lN (hc ||| 1 * 2 ^ call))) a kd rs hm hp wt (hc ||| 2 ^ call) off := by
    refine ⟨i0, i3, i4, i5, i6, ?_, i8, ir, ik, fun p hp => ?_⟩
    · rw [z_u_same, Nat.one_mul]
    · rw [z_u_row (by omega)]
      exact ij p hp
  refine v_callV E dX1_hear_14 k_X1_35 Y_X1_addRow (m_addRow d h I _ a hh hI2 hB m hm1 h52) hh.1 rfl rfl (Nat.le_of_ble_eq_true rfl) ?_
  rintro r h I' J' ⟨rfl, rfl, g1, g2⟩
  refine v_zret E X dX1_hear_17 (q_b01 _) ⟨rfl, rfl, g1, fun q hq => ?_⟩
  have := g2 q hq
  rw [z_u_row (by omega)] at this
  exact this
