/-! GO ON, FINISH -/
def s_wait (s : zS) (l : Nat) : Bool := !s_of s l && !s_sv s l
def s_nr (s : zS) (m l : Nat) : Bool := s_wait s l && !l_sp (s_rows s l) m
def s_bs (s : zS) (m l : Nat) : Bool := s_nr s m l && s_pw s [m] l
def s_wr (s : zS) (m : Nat) : Nat := l_cnt (s_bs s m) (s_nl s) * 11 + l_cnt (s_nr s m) (s_nl s)
def s_bk (s : zS) : Nat → Nat × Nat
  | 0 => (0, 0)
  | k + 1 => if (s_bk s k).2 < s_wr s (k + 1) then (k + 1, s_wr s (k + 1)) else s_bk s k
def s_best (s : zS) : Nat := (s_bk s (2 ^ s_np s - 1)).1
theorem s_bk_le (s : zS) : ∀ k, (s_bk s k).1 ≤ k
  | 0 => Nat.le_refl _
  | k + 1 => by
    have := s_bk_le s k
    simp only [s_bk]
    split
    · exact Nat.le_refl _
    · omega
theorem s_wr_lt {s : zS} (hw : s_wf s) (m : Nat) : s_wr s m ≤ 120 := by
  have h1 := l_cnt_le (s_bs s m) (s_nl s)
  have h2 := l_cnt_le (s_nr s m) (s_nl s)
  have h3 := hw.2.1
  unfold s_wr
  omega
theorem s_bk_lt {s : zS} (hw : s_wf s) : ∀ k, (s_bk s k).2 ≤ 120
  | 0 => Nat.zero_le _
  | k + 1 => by
    simp only [s_bk]
    split
    · exact s_wr_lt hw _
    · exact s_bk_lt hw k
def a_goOn (s : zS) : Int32 × zS := if 40 ≤ s_nc s then (-4, s) else if s_best s = 0 then (0, s) else (nI (s_best s), t_say s (s_best s))
def a_fin : Nat → zS → Nat × zS
  | 0, s => (0, s)
  | k + 1, s => if 0 < (a_goOn s).1 then ((a_fin k (a_goOn s).2).1 + 1, (a_fin k (a_goOn s).2).2) else (0, (a_goOn s).2)
theorem a_fin_z (s : zS) : a_fin 0 s = (0, s) := rfl
theorem a_fin_s (k : Nat) (s : zS) : a_fin (k + 1) s = if 0 < (a_goOn s).1 then ((a_fin k (a_goOn s).2).1 + 1, (a_fin k (a_goOn s).2).2) else (0, (a_goOn s).2) := rfl
def a_finish (s : zS) : Int32 × zS := (nI (a_fin 40 s).1, (a_fin 40 s).2)
theorem s_best_lt {s : zS} : s_best s < 2 ^ s_np s := by
  have := s_bk_le s (2 ^ s_np s - 1)
  have := Nat.two_pow_pos (s_np s)
  unfold s_best
  omega
theorem w_goOn {s : zS} (hw : s_wf s) : s_wf (a_goOn s).2 := by
  unfold a_goOn
  split
  · exact hw
  · split
    · exact hw
    · exact w_say hw (by omega) s_best_lt (by omega)
theorem w_fin : ∀ {k : Nat} {s : zS}, s_wf s → s_wf (a_fin k s).2
  | 0, _, h => h
  | k + 1, s, h => by
    simp only [a_fin]
    split
    · exact w_fin (w_goOn h)
    · exact w_goOn h
theorem a_fin_le : ∀ (k : Nat) (s : zS), (a_fin k s).1 ≤ k
  | 0, _ => Nat.le_refl _
  | k + 1, s => by
    simp only [a_fin]
    split
    · have := a_fin_le k (a_goOn s).2
      show (a_fin k (a_goOn s).2).1 + 1 ≤ k + 1
      omega
    · exact Nat.zero_le _
theorem l_wo_with {rs : List Nat} (hr : ∀ r ∈ rs, r < 1024) {m : Nat} (hm : m < 1024) : l_wo (l_f rs) (l_in (l_f rs) m) 10 = l_wo (l_f ([m] ++ rs)) 0 10 := by
  apply Nat.eq_of_testBit_eq
  intro i
  have h2 : ∀ r ∈ [m] ++ rs, r < 1024 := by
    intro r h
    rcases List.mem_cons.mp h with h | h
    · rw [h]
      exact hm
    · exact hr r h
  rw [l_wo_sp h2, l_wo_bit]
  by_cases hi : i < 10
  · have := l_f_with hr hi hm
    cases hs : l_sp ([m] ++ rs) (2 ^ i) with
    | true => rw [decide_eq_true (this.mpr hs)]
    | false =>
      have hf : decide (l_f rs i = 0 ∨ l_f rs i = l_in (l_f rs) m) = false := decide_eq_false (fun h9 => by
        have h3 := this.mp h9
        rw [show l_sp (m :: rs) (2 ^ i) = l_sp ([m] ++ rs) (2 ^ i) from rfl, hs] at h3
        cases h3)
      rw [hf]
  · rw [decide_eq_false hi]
    rfl
theorem m_waiting (d : Nat) (s : zS) (hw : s_wf s) (I : zI) (J : zJ) (hc : cI s I J) : z_C yX3_waitingListeners cX3_waitingListeners 4 (some .int) (d + 4) [.ref 1] (z_s (s_nl s)) I J 0 0 (z_q (some (.int (nI (o_m (s_wait s) (s_nl s))))) (z_s (s_nl s)) I J) := by
  have w2 := hw.2.1
  have c3 := hc.2.2.1
  refine z_C.of (by decide) (Nat.le_of_ble_eq_true rfl) fun K E X => ?_
  refine v_iconst (v := nI 0) E dX3_waitingListeners_0 (by decide) ?_
  refine v_istore_n E dX3_waitingListeners_1 (by decide) ?_
  refine v_iconst (v := nI 0) E dX3_waitingListeners_2 (by decide) ?_
  refine v_istore_n E dX3_waitingListeners_3 (by decide) ?_
  have loop : ∀ k, k ≤ s_nl s → ∀ ls : zL, (∀ q ∈ [(0, Value.ref 1), (1, .int (nI (o_m (s_wait s) k))), (2, .int (nI k))], z_at ls q.1 = some q.2) → z_V K 4 ls [] (z_s (s_nl s)) I J 0 0 := by
    refine z_for (s_nl s) ?_ (fun k hk ih => ?_)
    · intro ls hls
      refine v_ls hls ?_
      refine v_iload_n E dX3_waitingListeners_4 rfl ?_
      refine v_aload_n E dX3_waitingListeners_5 rfl ?_
      refine v_getR E f_X3_16 dX3_waitingListeners_6 rfl rfl rfl ?_
      refine v_callV1 E dX3_waitingListeners_9 k_X3_58 Y_Jx4a65c_size_8abf5 (m_size (d + 3) (s_nl s) I J c3) rfl rfl rfl (Nat.le_of_ble_eq_true rfl) ?_
      refine v_icmp_geN (tgt := 54) E dX3_waitingListeners_12 (by decide) (by omega) (by omega) (fun c => ?_) (fun c => ?_)
      · refine v_iload_n E dX3_waitingListeners_54 rfl ?_
        exact v_iret E X dX3_waitingListeners_55 z_qq
      · exact absurd c (by omega)
    · intro ls hls
      have hL := hc.2.2.2.2.2.2.2 k hk
      have e : o_m (s_wait s) (k + 1) = if s_wait s k then o_m (s_wait s) k ||| 2 ^ k else o_m (s_wait s) k := rfl
      have hdef : s_wait s k = (!s_of s k && !s_sv s k) := rfl
      have skip : s_wait s k = false → z_V K 48 [(0, Value.ref 1), (1, .int (nI (o_m (s_wait s) k))), (2, .int (nI k)), (3, .ref (z_pl k))] [] (z_s (s_nl s)) I J 0 0 := by
        intro e2
        rw [e2] at e
        rw [e] at ih
        refine v_inc E dX3_waitingListeners_48 rfl (by decide) ?_
        refine v_goto (tgt := 4) E dX3_waitingListeners_51 (by decide) ?_
        refine ih _ ?_
        intro q hq
        simp only [List.mem_cons, List.not_mem_nil, or_false] at hq
        rcases hq with rfl | rfl | rfl <;> rfl
      refine v_ls hls ?_
      refine v_iload_n E dX3_waitingListeners_4 rfl ?_
      refine v_aload_n E dX3_waitingListeners_5 rfl ?_
      refine v_getR E f_X3_16 dX3_waitingListeners_6 rfl rfl rfl ?_
      refine v_callV1 E dX3_waitingListeners_9 k_X3_58 Y_Jx4a65c_size_8abf5 (m_size (d + 3) (s_nl s) I J c3) rfl rfl rfl (Nat.le_of_ble_eq_true rfl) ?_
      refine v_icmp_geN (tgt := 54) E dX3_waitingListeners_12 (by decide) (by omega) (by omega) (fun c => ?_) (fun c => ?_)
      · exact absurd c (by omega)
      · refine v_aload_n E dX3_waitingListeners_15 rfl ?_
        refine v_getR E f_X3_16 dX3_waitingListeners_16 rfl rfl rfl ?_
        refine v_iload_n E dX3_waitingListeners_19 rfl ?_
        refine v_callV1 E dX3_waitingListeners_20 k_X3_74 Y_Jx4a65c_get_915e3 (m_get (d + 1) (s_nl s) I J c3 k hk w2) rfl rfl rfl (Nat.le_of_ble_eq_true rfl) ?_
        refine v_checkcast E dX3_waitingListeners_23 c_X3_62 (by decide) (v_cc hk) ?_
        refine v_astore_n E dX3_waitingListeners_26 (by decide) ?_
        refine v_aload_n E dX3_waitingListeners_27 rfl ?_
        refine v_getIE E f_X3_100 dX3_waitingListeners_28 (v_cc hk) rfl hL.2.2.2.2.2.2.1 ?_
        refine v_if_neB (tgt := 48) E dX3_waitingListeners_31 (by decide)  (fun c1 => ?_) (fun c1 => ?_)
        · exact skip (by rw [hdef, c1]; rfl)
        · refine v_aload_n E dX3_waitingListeners_34 rfl ?_
          refine v_aload_n E dX3_waitingListeners_35 rfl ?_
          refine v_callV1 E dX3_waitingListeners_36 k_X3_132 Y_X3_isServed (m_isServed d s hw I J hc k hk) rfl rfl rfl (Nat.le_of_ble_eq_true rfl) ?_
          refine v_if_neB (tgt := 48) E dX3_waitingListeners_39 (by decide)  (fun c2 => ?_) (fun c2 => ?_)
          · exact skip (by rw [hdef, c2]; simp)
          · have e2 : s_wait s k = true := by rw [hdef, c1, c2]; rfl
            rw [e2] at e
            rw [e] at ih
            refine v_iload_n E dX3_waitingListeners_42 rfl ?_
            refine v_iconst (v := nI 1) E dX3_waitingListeners_43 (by decide) ?_
            refine v_iload_n E dX3_waitingListeners_44 rfl ?_
            refine v_ishlN E dX3_waitingListeners_45 (by omega) ?_
            refine v_iorN E dX3_waitingListeners_46 ?_
            refine v_istore_n E dX3_waitingListeners_47 (by decide) ?_
            refine v_inc E dX3_waitingListeners_48 rfl (by decide) ?_
            refine v_goto (tgt := 4) E dX3_waitingListeners_51 (by decide) ?_
            rw [Nat.one_mul]
            refine ih _ ?_
            intro q hq
            simp only [List.mem_cons, List.not_mem_nil, or_false] at hq
            rcases hq with rfl | rfl | rfl <;> rfl
  refine loop 0 (by omega) _ ?_
  intro q hq
  simp only [List.mem_cons, List.not_mem_nil, or_false] at hq
  rcases hq with rfl | rfl | rfl <;> rfl
theorem m_worthOf (d : Nat) (s : zS) (hw : s_wf s) (I : zI) (J : zJ) (hc : cI s I J) (m : Nat) (hm : m < 1024) : z_C yX3_worthOf cX3_worthOf 8 (some .int) (d + 3) [.ref 1, .int (nI m), .int (nI (o_m (s_wait s) (s_nl s)))] (z_s (s_nl s)) I J 0 0 (z_q (some (.int (nI (s_wr s m)))) (z_s (s_nl s)) I J) := by
  have w1 := hw.1
  have w2 := hw.2.1
  have c3 := hc.2.2.1
  have hwl : o_m (s_wait s) (s_nl s) < 1024 := p2_10 w2 (o_m_lt _ _)
  refine z_C.of (by decide) (Nat.le_of_ble_eq_true rfl) fun K E X => ?_
  refine v_iconst (v := nI 0) E dX3_worthOf_0 (by decide) ?_
  refine v_istore_n E dX3_worthOf_1 (by decide) ?_
  refine v_iconst (v := nI 0) E dX3_worthOf_2 (by decide) ?_
  refine v_istore E dX3_worthOf_3 (by decide) ?_
  refine v_iconst (v := nI 0) E dX3_worthOf_5 (by decide) ?_
  refine v_istore E dX3_worthOf_6 (by decide) ?_
  have loop : ∀ k, k ≤ s_nl s → ∀ ls : zL, (∀ q ∈ [(0, Value.ref 1), (1, .int (nI m)), (2, .int (nI (o_m (s_wait s) (s_nl s)))), (3, .int (nI (l_cnt (s_bs s m) k))), (4, .int (nI (l_cnt (s_nr s m) k))), (5, .int (nI k))], z_at ls q.1 = some q.2) → z_V K 8 ls [] (z_s (s_nl s)) I J 0 0 := by
    refine z_for (s_nl s) ?_ (fun k hk ih => ?_)
    · intro ls hls
      refine v_ls hls ?_
      refine v_iload E dX3_worthOf_8 rfl ?_
      refine v_aload_n E dX3_worthOf_10 rfl ?_
      refine v_getR E f_X3_16 dX3_worthOf_11 rfl rfl rfl ?_
      refine v_callV1 E dX3_worthOf_14 k_X3_58 Y_Jx4a65c_size_8abf5 (m_size (d + 2) (s_nl s) I J c3) rfl rfl rfl (Nat.le_of_ble_eq_true rfl) ?_
      refine v_icmp_geN (tgt := 85) E dX3_worthOf_17 (by decide) (by omega) (by omega) (fun c => ?_) (fun c => ?_)
      · refine v_iload_n E dX3_worthOf_85 rfl ?_
        refine v_bipush (v := nI 11) E dX3_worthOf_86 (by decide) ?_
        refine v_imulN E dX3_worthOf_88 ?_
        refine v_iload E dX3_worthOf_89 rfl ?_
        refine v_iaddN E dX3_worthOf_91 ?_
        exact v_iret E X dX3_worthOf_92 z_qq
      · exact absurd c (by omega)
    · intro ls hls
      have hL := hc.2.2.2.2.2.2.2 k hk
      obtain ⟨i0, i3, i4, i5, i6, i7, i8, ir, ik, ij⟩ := hL
      obtain ⟨b0, b1, b2, b3, b4, b5⟩ := s_lsB hw k
      have hin : l_in (l_f (s_rows s k)) m < 1024 := l_in_lt (l_f_lt b1)
      have hsp := l_f_sp b1 hm
      have e1 : l_cnt (s_bs s m) (k + 1) = l_cnt (s_bs s m) k + (s_bs s m k).toNat := rfl
      have e2 : l_cnt (s_nr s m) (k + 1) = l_cnt (s_nr s m) k + (s_nr s m k).toNat := rfl
      have hdef : s_nr s m k = (s_wait s k && !l_sp (s_rows s k) m) := rfl
      have hdef2 : s_bs s m k = (s_nr s m k && s_pw s [m] k) := rfl
      have bit : (o_m (s_wait s) (s_nl s)).testBit k = s_wait s k := by rw [o_m_bit, decide_eq_true hk, Bool.true_and]
      have skip : s_nr s m k = false → ∀ ls : zL, (∀ q ∈ [(0, Value.ref 1), (1, .int (nI m)), (2, .int (nI (o_m (s_wait s) (s_nl s)))), (3, .int (nI (l_cnt (s_bs s m) k))), (4, .int (nI (l_cnt (s_nr s m) k))), (5, .int (nI k))], z_at ls q.1 = some q.2) → z_V K 79 ls [] (z_s (s_nl s)) I J 0 0 := by
        intro h1 ls hls
        rw [h1] at e2 hdef2
        rw [hdef2] at e1
        rw [e1, e2] at ih
        refine v_ls hls ?_
        refine v_inc E dX3_worthOf_79 rfl (by decide) ?_
        refine v_goto (tgt := 8) E dX3_worthOf_82 (by decide) ?_
        refine ih _ ?_
        intro q hq
        simp only [List.mem_cons, List.not_mem_nil, or_false] at hq
        rcases hq with rfl | rfl | rfl | rfl | rfl | rfl <;> rfl
      refine v_ls hls ?_
      refine v_iload E dX3_worthOf_8 rfl ?_
      refine v_aload_n E dX3_worthOf_10 rfl ?_
      refine v_getR E f_X3_16 dX3_worthOf_11 rfl rfl rfl ?_
      refine v_callV1 E dX3_worthOf_14 k_X3_58 Y_Jx4a65c_size_8abf5 (m_size (d + 2) (s_nl s) I J c3) rfl rfl rfl (Nat.le_of_ble_eq_true rfl) ?_
      refine v_icmp_geN (tgt := 85) E dX3_worthOf_17 (by decide) (by omega) (by omega) (fun c => ?_) (fun c => ?_)
      · exact absurd c (by omega)
      · refine v_iload E dX3_worthOf_20 rfl ?_
        refine v_iload_n E dX3_worthOf_22 rfl ?_
        refine v_callS1 E dX3_worthOf_23 k_X3_84 Y_X3_isIn (m_isIn (d + 2) (z_s (s_nl s)) I J k _ (by omega) (by omega)) rfl rfl (Nat.le_of_ble_eq_true rfl) ?_
        rw [bit]
        refine v_if_eqB (tgt := 79) E dX3_worthOf_26 (by decide)  (fun c1 => ?_) (fun c1 => ?_)
        · refine skip (by rw [hdef, c1]; rfl) _ ?_
          intro q hq
          simp only [List.mem_cons, List.not_mem_nil, or_false] at hq
          rcases hq with rfl | rfl | rfl | rfl | rfl | rfl <;> rfl
        · refine v_aload_n E dX3_worthOf_29 rfl ?_
          refine v_getR E f_X3_16 dX3_worthOf_30 rfl rfl rfl ?_
          refine v_iload E dX3_worthOf_33 rfl ?_
          refine v_callV1 E dX3_worthOf_35 k_X3_74 Y_Jx4a65c_get_915e3 (m_get d (s_nl s) I J c3 k hk w2) rfl rfl rfl (Nat.le_of_ble_eq_true rfl) ?_
          refine v_checkcast E dX3_worthOf_38 c_X3_62 (by decide) (v_cc hk) ?_
          refine v_astore E dX3_worthOf_41 (by decide) ?_
          refine v_aload E dX3_worthOf_43 rfl ?_
          refine v_getR E f_X3_126 dX3_worthOf_45 (v_cc hk) rfl (z_ls hk).2.2.2.2 ?_
          refine v_iload_n E dX3_worthOf_48 rfl ?_
          refine v_callV1 E dX3_worthOf_49 k_X3_242 Y_X0_restOf (m_restOf (d + 1) (z_s (s_nl s)) I J (z_pl k + 2) (z_ls hk).2.2.1 (l_f (s_rows s k)) ik.1 m hm) (z_ls hk).2.2.1.1 rfl rfl (Nat.le_of_ble_eq_true rfl) ?_
          refine v_istore E dX3_worthOf_52 (by decide) ?_
          refine v_iload E dX3_worthOf_54 rfl ?_
          refine v_if_eqN (tgt := 79) E dX3_worthOf_56 (by decide) (by omega) (fun c2 => ?_) (fun c2 => ?_)
          · refine skip (by rw [hdef, hsp.mp c2]; simp) _ ?_
            intro q hq
            simp only [List.mem_cons, List.not_mem_nil, or_false] at hq
            rcases hq with rfl | rfl | rfl | rfl | rfl | rfl <;> rfl
          · have hnsp : l_sp (s_rows s k) m = false := by
              cases h : l_sp (s_rows s k) m with
              | false => rfl
              | true => exact absurd (hsp.mpr h) (by omega)
            have hnr : s_nr s m k = true := by rw [hdef, c1, hnsp]; rfl
            refine v_inc E dX3_worthOf_59 rfl (by decide) ?_
            refine v_iload_n E dX3_worthOf_62 rfl ?_
            refine v_aload E dX3_worthOf_63 rfl ?_
            refine v_iload E dX3_worthOf_65 rfl ?_
            refine v_aload_n E dX3_worthOf_67 rfl ?_
            refine v_callV1 E dX3_worthOf_68 k_X3_147 Y_X3_allPieces (m_allPieces (d + 2) (s_nl s) (s_np s) I J hc.1 w1) rfl rfl rfl (Nat.le_of_ble_eq_true rfl) ?_
            refine v_callV1 E dX3_worthOf_71 k_X3_245 Y_X1_wouldBeServedBy (m_wouldBe (d + 1) (z_s (s_nl s)) I J (z_pl k) (z_ls hk) i0 i5 i6 b0 b4 b5 (l_f (s_rows s k)) ik.1 (l_f_lt b1) _ (2 ^ s_np s - 1) hin (p2_lt w1)) (v_cc hk) rfl rfl (Nat.le_of_ble_eq_true rfl) ?_
            rw [l_wo_with b1 hm]
            have hpw : l_sv (s_kd s k) (s_hp s k) (s_wt s k) (l_wo (l_f ([m] ++ s_rows s k)) 0 10) (2 ^ s_np s - 1) = s_pw s [m] k := rfl
            rw [hpw]
            refine v_callS1 E dX3_worthOf_74 k_X3_104 Y_X3_oneIf (m_oneIf (d + 2) (z_s (s_nl s)) I J (s_pw s [m] k)) rfl rfl (Nat.le_of_ble_eq_true rfl) ?_
            refine v_iaddN E dX3_worthOf_77 ?_
            refine v_istore_n E dX3_worthOf_78 (by decide) ?_
            refine v_inc E dX3_worthOf_79 rfl (by decide) ?_
            refine v_goto (tgt := 8) E dX3_worthOf_82 (by decide) ?_
            rw [hnr, Bool.true_and] at hdef2
            rw [hdef2] at e1
            rw [hnr] at e2
            rw [e1, e2] at ih
            refine ih _ ?_
            intro q hq
            simp only [List.mem_cons, List.not_mem_nil, or_false] at hq
            rcases hq with rfl | rfl | rfl | rfl | rfl | rfl <;> rfl
  refine loop 0 (by omega) _ ?_
  intro q hq
  simp only [List.mem_cons, List.not_mem_nil, or_false] at hq
  rcases hq with rfl | rfl | rfl | rfl | rfl | rfl <;> rfl
theorem l_cnt_none {P : Nat → Bool} : ∀ {k : Nat}, (∀ l, l < k → P l = false) → l_cnt P k = 0
  | 0, _ => rfl
  | k + 1, h => by
    show l_cnt P k + (P k).toNat = 0
    rw [l_cnt_none (fun l hl => h l (by omega)), h k (by omega)]
    rfl
theorem s_wait_0 {s : zS} (h : o_m (s_wait s) (s_nl s) = 0) : ∀ k, s_bk s k = (0, 0) := by
  have h1 : ∀ l, l < s_nl s → s_wait s l = false := fun l hl => by
    have := o_m_bit (s_wait s) l (s_nl s)
    rw [h, Nat.zero_testBit, decide_eq_true hl, Bool.true_and] at this
    exact this.symm
  have h2 : ∀ m, s_wr s m = 0 := fun m => by
    unfold s_wr
    rw [l_cnt_none (fun l hl => ?_), l_cnt_none (fun l hl => ?_)]
    · unfold s_nr
      rw [h1 l hl]
      rfl
    · unfold s_bs s_nr
      rw [h1 l hl]
      rfl
  intro k
  induction k with
  | zero => rfl
  | succ k ih =>
    simp only [s_bk, ih, h2]
    rfl
theorem m_bestMask (d : Nat) (s : zS) (hw : s_wf s) (I : zI) (J : zJ) (hc : cI s I J) : z_C yX3_bestMask cX3_bestMask 6 (some .int) (d + 5) [.ref 1] (z_s (s_nl s)) I J 0 0 (z_q (some (.int (nI (s_best s)))) (z_s (s_nl s)) I J) := by
  have w1 := hw.1
  have w2 := hw.2.1
  have hp := p2n w1
  have hpp := Nat.two_pow_pos (s_np s)
  have hwl : o_m (s_wait s) (s_nl s) < 1024 := p2_10 w2 (o_m_lt _ _)
  refine z_C.of (by decide) (Nat.le_of_ble_eq_true rfl) fun K E X => ?_
  refine v_aload_n E dX3_bestMask_0 rfl ?_
  refine v_callV1 E dX3_bestMask_1 k_X3_235 Y_X3_waitingListeners (m_waiting d s hw I J hc) rfl rfl rfl (Nat.le_of_ble_eq_true rfl) ?_
  refine v_istore_n E dX3_bestMask_4 (by decide) ?_
  refine v_iload_n E dX3_bestMask_5 rfl ?_
  refine v_if_neN (tgt := 11) E dX3_bestMask_6 (by decide) (by omega) (fun c => ?_) (fun c => ?_)
  · refine v_iconst (v := nI 0) E dX3_bestMask_11 (by decide) ?_
    refine v_istore_n E dX3_bestMask_12 (by decide) ?_
    refine v_iconst (v := nI 0) E dX3_bestMask_13 (by decide) ?_
    refine v_istore_n E dX3_bestMask_14 (by decide) ?_
    refine v_iconst (v := nI 1) E dX3_bestMask_15 (by decide) ?_
    refine v_istore E dX3_bestMask_16 (by decide) ?_
    have loop : ∀ k, k ≤ 2 ^ s_np s - 1 → ∀ ls : zL, (∀ q ∈ [(0, Value.ref 1), (1, .int (nI (o_m (s_wait s) (s_nl s)))), (2, .int (nI (s_bk s k).1)), (3, .int (nI (s_bk s k).2)), (4, .int (nI (k + 1)))], z_at ls q.1 = some q.2) → z_V K 18 ls [] (z_s (s_nl s)) I J 0 0 := by
      refine z_for _ ?_ (fun k hk ih => ?_)
      · intro ls hls
        refine v_ls hls ?_
        refine v_iload E dX3_bestMask_18 rfl ?_
        refine v_aload_n E dX3_bestMask_20 rfl ?_
        refine v_callV1 E dX3_bestMask_21 k_X3_147 Y_X3_allPieces (m_allPieces (d + 4) (s_nl s) (s_np s) I J hc.1 w1) rfl rfl rfl (Nat.le_of_ble_eq_true rfl) ?_
        refine v_icmp_gtN (tgt := 54) E dX3_bestMask_24 (by decide) (by omega) (by omega) (fun c1 => ?_) (fun c1 => ?_)
        · refine v_iload_n E dX3_bestMask_54 rfl ?_
          exact v_iret E X dX3_bestMask_55 z_qq
        · exact absurd c1 (by omega)
      · intro ls hls
        have hwr := s_wr_lt hw (k + 1)
        have hbk := s_bk_lt hw k
        have e : s_bk s (k + 1) = if (s_bk s k).2 < s_wr s (k + 1) then (k + 1, s_wr s (k + 1)) else s_bk s k := rfl
        refine v_ls hls ?_
        refine v_iload E dX3_bestMask_18 rfl ?_
        refine v_aload_n E dX3_bestMask_20 rfl ?_
        refine v_callV1 E dX3_bestMask_21 k_X3_147 Y_X3_allPieces (m_allPieces (d + 4) (s_nl s) (s_np s) I J hc.1 w1) rfl rfl rfl (Nat.le_of_ble_eq_true rfl) ?_
        refine v_icmp_gtN (tgt := 54) E dX3_bestMask_24 (by decide) (by omega) (by omega) (fun c1 => ?_) (fun c1 => ?_)
        · exact absurd c1 (by omega)
        · refine v_aload_n E dX3_bestMask_27 rfl ?_
          refine v_iload E dX3_bestMask_28 rfl ?_
          refine v_iload_n E dX3_bestMask_30 rfl ?_
          refine v_callV1 E dX3_bestMask_31 k_X3_238 Y_X3_worthOf (m_worthOf (d + 1) s hw I J hc (k + 1) (by omega)) rfl rfl rfl (Nat.le_of_ble_eq_true rfl) ?_
          refine v_istore E dX3_bestMask_34 (by decide) ?_
          refine v_iload E dX3_bestMask_36 rfl ?_
          refine v_iload_n E dX3_bestMask_38 rfl ?_
          refine v_icmp_leN (tgt := 48) E dX3_bestMask_39 (by decide) (by omega) (by omega) (fun c2 => ?_) (fun c2 => ?_)
          · rw [if_neg (by omega)] at e
            rw [e] at ih
            refine v_inc E dX3_bestMask_48 rfl (by decide) ?_
            refine v_goto (tgt := 18) E dX3_bestMask_51 (by decide) ?_
            refine ih _ ?_
            intro q hq
            simp only [List.mem_cons, List.not_mem_nil, or_false] at hq
            rcases hq with rfl | rfl | rfl | rfl | rfl <;> rfl
          · rw [if_pos (by omega)] at e
            rw [e] at ih
            refine v_iload E dX3_bestMask_42 rfl ?_
            refine v_istore_n E dX3_bestMask_44 (by decide) ?_
            refine v_iload E dX3_bestMask_45 rfl ?_
            refine v_istore_n E dX3_bestMask_47 (by decide) ?_
            refine v_inc E dX3_bestMask_48 rfl (by decide) ?_
            refine v_goto (tgt := 18) E dX3_bestMask_51 (by decide) ?_
            refine ih _ ?_
            intro q hq
            simp only [List.mem_cons, List.not_mem_nil, or_false] at hq
            rcases hq with rfl | rfl | rfl | rfl | rfl <;> rfl
    refine loop 0 (by omega) _ ?_
    intro q hq
    simp only [List.mem_cons, List.not_mem_nil, or_false] at hq
    rcases hq with rfl | rfl | rfl | rfl | rfl <;> rfl
  · refine v_iconst (v := nI 0) E dX3_bestMask_9 (by decide) ?_
    exact v_iret E X dX3_bestMask_10 (z_qi (by unfold s_best; rw [s_wait_0 c]))
theorem m_goOn (d : Nat) (s : zS) (hw : s_wf s) (I : zI) (J : zJ) (hc : cI s I J) : z_C yX3_goOn cX3_goOn 2 (some .int) (d + 6) [.ref 1] (z_s (s_nl s)) I J 0 0 (cQ (a_goOn s) I J) := by
  have w1 := hw.1
  have w3 := hw.2.2.1
  have hp := p2n w1
  have hb : s_best s < 2 ^ s_np s := s_best_lt
  refine z_C.of (by decide) (Nat.le_of_ble_eq_true rfl) fun K E X => ?_
  refine v_aload_n E dX3_goOn_0 rfl ?_
  refine v_getIE E f_X3_47 dX3_goOn_1 rfl rfl hc.2.1 ?_
  refine v_bipush (v := nI 40) E dX3_goOn_4 (by decide) ?_
  refine v_icmp_ltN (tgt := 12) E dX3_goOn_6 (by decide) (by omega) (by omega) (fun c => ?_) (fun c => ?_)
  · refine v_aload_n E dX3_goOn_12 rfl ?_
    refine v_callV1 E dX3_goOn_13 k_X3_189 Y_X3_bestMask (m_bestMask d s hw I J hc) rfl rfl rfl (Nat.le_of_ble_eq_true rfl) ?_
    refine v_istore_n E dX3_goOn_16 (by decide) ?_
    refine v_iload_n E dX3_goOn_17 rfl ?_
    refine v_if_eqN (tgt := 27) E dX3_goOn_18 (by decide) (by omega) (fun c1 => ?_) (fun c1 => ?_)
    · refine v_iload_n E dX3_goOn_27 rfl ?_
      exact v_iret E X dX3_goOn_28 (cQ.same (by unfold a_goOn; rw [if_neg (by omega), if_pos c1, c1]; rfl) hc)
    · refine v_aload_n E dX3_goOn_21 rfl ?_
      refine v_iload_n E dX3_goOn_22 rfl ?_
      refine v_callV E dX3_goOn_23 k_X3_108 Y_X3_speak (m_speak d s hw I J hc (s_best s) (by omega) hb) rfl rfl rfl (Nat.le_of_ble_eq_true rfl) ?_
      rintro r h' I' J' ⟨rfl, rfl, g1, g2⟩
      have e : (a_sayN s (s_best s)).2 = t_say s (s_best s) := by unfold a_sayN; rw [if_neg (by omega)]
      have e2 : a_goOn s = (nI (s_best s), t_say s (s_best s)) := by unfold a_goOn; rw [if_neg (by omega), if_neg (by omega)]
      rw [e] at g1 ⊢
      refine v_pop E dX3_goOn_26 rfl ?_
      refine v_iload_n E dX3_goOn_27 rfl ?_
      exact v_iret E X dX3_goOn_28 ⟨by rw [e2], by rw [e2], by rw [e2]; exact g1, g2⟩
  · refine v_bipush (v := -4) E dX3_goOn_9 (by decide) ?_
    exact v_iret E X dX3_goOn_11 (cQ.same (by unfold a_goOn; rw [if_pos (by omega)]) hc)
theorem m_finish (d : Nat) (s : zS) (hw : s_wf s) (I : zI) (J : zJ) (hc : cI s I J) : z_C yX3_finish cX3_finish 2 (some .int) (d + 7) [.ref 1] (z_s (s_nl s)) I J 0 0 (cQ (a_finish s) I J) := by
  obtain ⟨A, hA⟩ : ∃ A, A = a_fin 40 s := ⟨_, rfl⟩
  have hfin : a_finish s = (nI A.1, A.2) := by unfold a_finish; rw [← hA]
  rw [hfin]
  refine z_C.of (by decide) (Nat.le_of_ble_eq_true rfl) fun K E X => ?_
  refine v_iconst (v := nI 0) E dX3_finish_0 (by decide) ?_
  refine v_istore_n E dX3_finish_1 (by decide) ?_
  have loop : ∀ k, k ≤ 40 → ∀ s1, s_wf s1 → ∀ I1 J1, cI s1 I1 J1 → mFr I J I1 J1 → A.1 = (a_fin (40 - k) s1).1 + k → A.2 = (a_fin (40 - k) s1).2 → z_V K 2 [(0, .ref 1), (1, .int (nI k))] [] (z_s (s_nl s1)) I1 J1 0 0 := by
    refine z_for 40 ?_ (fun k hk ih => ?_)
    · intro s1 w1 I1 J1 c1 f1 e1 e2
      refine v_iload_n E dX3_finish_2 rfl ?_
      refine v_bipush (v := nI 40) E dX3_finish_3 (by decide) ?_
      refine v_icmp_geN (tgt := 21) E dX3_finish_5 (by decide) (by omega) (by omega) (fun c => ?_) (fun c => ?_)
      · refine v_iload_n E dX3_finish_21 rfl ?_
        rw [Nat.sub_self, a_fin_z] at e1 e2
        have e1 : A.1 = 0 + 40 := e1
        have e2 : A.2 = s1 := e2
        rw [Nat.zero_add] at e1
        exact v_iret E X dX3_finish_22 ⟨by rw [e1], by rw [e2], by rw [e2]; exact c1, f1⟩
      · exact absurd c (by omega)
    · intro s1 w1 I1 J1 c1 f1 e1 e2
      rw [show 40 - k = (40 - (k + 1)) + 1 by omega, a_fin_s] at e1 e2
      refine v_iload_n E dX3_finish_2 rfl ?_
      refine v_bipush (v := nI 40) E dX3_finish_3 (by decide) ?_
      refine v_icmp_geN (tgt := 21) E dX3_finish_5 (by decide) (by omega) (by omega) (fun c => ?_) (fun c => ?_)
      · exact absurd c (by omega)
      · refine v_aload_n E dX3_finish_8 rfl ?_
        refine v_callV E dX3_finish_9 k_X3_192 Y_X3_goOn (m_goOn d s1 w1 I1 J1 c1) rfl rfl rfl (Nat.le_of_ble_eq_true rfl) ?_
        rintro r h' I2 J2 ⟨rfl, rfl, g1, g2⟩
        have f2 : mFr I J I2 J2 := fun q a b => ⟨by rw [(g2 q a b).1, (f1 q a b).1], by rw [(g2 q a b).2, (f1 q a b).2]⟩
        refine v_if_le (tgt := 21) E dX3_finish_12 (by decide)  (fun c2 => ?_) (fun c2 => ?_)
        · refine v_iload_n E dX3_finish_21 rfl ?_
          rw [if_neg (Int32.not_lt.mpr c2)] at e1 e2
          have e1 : A.1 = 0 + k := e1
          have e2 : A.2 = (a_goOn s1).2 := e2
          rw [Nat.zero_add] at e1
          exact v_iret E X dX3_finish_22 ⟨by rw [e1], by rw [e2], by rw [e2]; exact g1, f2⟩
        · refine v_inc E dX3_finish_15 rfl (by decide) ?_
          refine v_goto (tgt := 2) E dX3_finish_18 (by decide) ?_
          rw [if_pos (Int32.not_le.mp c2)] at e1 e2
          refine ih (a_goOn s1).2 (w_goOn w1) I2 J2 g1 f2 ?_ e2
          have e1 : A.1 = (a_fin (40 - (k + 1)) (a_goOn s1).2).1 + 1 + k := e1
          omega
  exact loop 0 (by omega) s hw I J hc (fun _ _ _ => ⟨rfl, rfl⟩) (by rw [hA, Nat.sub_zero, Nat.add_zero]) (by rw [hA, Nat.sub_zero])
