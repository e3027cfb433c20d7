/-! THE MODEL: frames, small ones -/
section MM1
variable {y : MethodName} {cc : ByteArray} {nL d : Nat} {ret : Option FieldType} {K : zK} {pc : Nat} {ls : zL} {st : List Value} {h : zH} {I : zI} {J : zJ} {kc ks : Nat}
theorem v_tb {m p : Nat} (k : z_V K pc ls (.int (nI (m.testBit p).toNat) :: st) h I J kc ks) : z_V K pc ls (.int (nI (m / 2 ^ p &&& 1)) :: st) h I J kc ks := v_top (by rw [q_a1, q_tbn]) k
theorem v_p2 {p : Nat} (k : z_V K pc ls (.int (nI (2 ^ p)) :: st) h I J kc ks) : z_V K pc ls (.int (nI (1 * 2 ^ p)) :: st) h I J kc ks := v_top (by rw [Nat.one_mul]) k
theorem v_icmp_neB (E : z_E y cc nL ret d K) {b : Bool} {off : Int} {tgt : Nat} (hd : decode cc pc = .ok (.if_icmp .ne off, 3)) (ht : (pc : Int) + off = (tgt : Int)) (kt : b = false → z_V K tgt ls st h I J kc ks) (kf : b = true → z_V K (pc + 3) ls st h I J kc ks) : z_V K pc ls (.int (nI 1) :: .int (nI b.toNat) :: st) h I J kc ks := by
  refine v_icmp_neN E hd ht (by cases b <;> decide) (by decide) (fun q => kt ?_) (fun q => kf ?_) <;> cases b <;> simp_all
end MM1
/-- what a read of the model may change: its scratch -/
def mS (I I' : zI) : Prop := (∀ q, (q < 26 ∨ 36 < q) → q ≠ 17 → I' q = I q) ∧ ∀ k, k < 13 → I' 17 k = I 17 k
theorem mS.rf (I : zI) : mS I I := ⟨fun _ _ _ => rfl, fun _ _ => rfl⟩
theorem mS.tr {I I' I2 : zI} (h : mS I I') (h2 : mS I' I2) : mS I I2 := ⟨fun q a b => by rw [h2.1 q a b, h.1 q a b], fun k a => by rw [h2.2 k a, h.2 k a]⟩
theorem mS.mI {s : zS} {I I' : zI} {J : zJ} (h : mS I I') (hm : mI s I J) : mI s I' J := by
  obtain ⟨m1, m2, m3, m4, m5, m6, m7, m8, m9, m10, m11⟩ := hm
  refine ⟨?_, ?_, ?_, m4, ?_, ?_, ?_, ?_, ?_, ?_, ?_⟩
  · rw [h.2 0 (by decide)]; exact m1
  · rw [h.2 1 (by decide)]; exact m2
  · rw [h.2 2 (by decide)]; exact m3
  · rw [h.1 19 (by decide) (by decide)]; exact m5
  · rw [h.1 20 (by decide) (by decide)]; exact m6
  · rw [h.1 21 (by decide) (by decide)]; exact m7
  · rw [h.1 22 (by decide) (by decide)]; exact m8
  · rw [h.1 23 (by decide) (by decide)]; exact m9
  · rw [h.1 24 (by decide) (by decide)]; exact m10
  · rw [h.1 25 (by decide) (by decide)]; exact m11
/-- what the model leaves to the class -/
def xFr (I : zI) (J : zJ) (I' : zI) (J' : zJ) : Prop := ∀ q, (q < 17 ∨ 36 < q) → I' q = I q ∧ J' q = J q
theorem mS.x {I I' : zI} {J : zJ} (h : mS I I') : xFr I J I' J := fun q hq => ⟨h.1 q (by omega) (by omega), rfl⟩
theorem xFr.cI {s : zS} {I I' : zI} {J J' : zJ} (h : xFr I J I' J') (hc : cI s I J) : cI s I' J' := by
  obtain ⟨c1, c2, c3, c4, c5, c6, c7, c8⟩ := hc
  refine ⟨?_, ?_, ?_, ?_, ?_, ?_, ?_, ?_⟩
  · rw [(h 1 (by decide)).1]; exact c1
  · rw [(h 1 (by decide)).1]; exact c2
  · rw [(h 3 (by decide)).1]; exact c3
  · rw [(h 2 (by decide)).2]; exact c4
  · rw [(h 4 (by decide)).1]; exact c5
  · rw [(h 5 (by decide)).1]; exact c6
  · rw [(h 6 (by decide)).1]; exact c7
  · intro l hl
    have := z_pl_37 l
    exact lsI_kept (c8 l hl) (fun q q1 q2 => h q (by omega))
def mR (v : Value) (nl : Nat) (I : zI) (J : zJ) : zQ := fun r h' I' J' => r = some v ∧ h' = z_s nl ∧ mS I I' ∧ J' = J
def mQ (a : Int32 × zS) (nl : Nat) (I : zI) (J : zJ) : zQ := fun r h' I' J' => r = some (.int a.1) ∧ h' = z_s nl ∧ mI a.2 I' J' ∧ xFr I J I' J'
theorem mQ.same {a : Int32 × zS} {s : zS} {v : Int32} {nl : Nat} {I : zI} {J : zJ} (e : a = (v, s)) (hm : mI s I J) : mQ a nl I J (some (.int v)) (z_s nl) I J := by
  subst e
  exact ⟨rfl, rfl, hm, fun _ _ => ⟨rfl, rfl⟩⟩
theorem mm_isPiece (d nl : Nat) {np : Nat} (I : zI) (J : zJ) (hn : I 17 0 = nI np) (x : Int32) : z_C yX4_isPiece cX4_isPiece 2 (some .boolean) d [.ref 17, .int x] (z_s nl) I J 0 0 (z_q (some (.int (nI (z_isx x np).toNat))) (z_s nl) I J) := by
  refine z_C.of (by decide) (Nat.le_of_ble_eq_true rfl) fun K E X => ?_
  have no : z_isx x np = false → z_V K 16 [(0, .ref 17), (1, .int x)] [] (z_s nl) I J 0 0 := by
    intro e
    refine v_iconst (v := nI 0) E dX4_isPiece_16 (by decide) ?_
    exact v_zret E X dX4_isPiece_17 (by first | exact Or.inl rfl | exact Or.inr rfl) (z_qi (by rw [e]; rfl))
  refine v_iload_n E dX4_isPiece_0 rfl ?_
  refine v_if_lt (tgt := 16) E dX4_isPiece_1 (by decide)  (fun c => ?_) (fun c => ?_)
  · exact no (decide_eq_false (fun z => z.1 c))
  · refine v_iload_n E dX4_isPiece_4 rfl ?_
    refine v_aload_n E dX4_isPiece_5 rfl ?_
    refine v_getIE E f_X4_7 dX4_isPiece_6 rfl rfl hn ?_
    refine v_icmp_ge (tgt := 16) E dX4_isPiece_9 (by decide)  (fun c1 => ?_) (fun c1 => ?_)
    · exact no (decide_eq_false (fun z => absurd z.2 (Int32.not_lt.mpr c1)))
    · refine v_iconst (v := nI 1) E dX4_isPiece_12 (by decide) ?_
      refine v_goto (tgt := 17) E dX4_isPiece_13 (by decide) ?_
      have e : z_isx x np = true := decide_eq_true ⟨c, Int32.not_le.mp c1⟩
      exact v_zret E X dX4_isPiece_17 (by first | exact Or.inl rfl | exact Or.inr rfl) (z_qi (by rw [e]; rfl))
theorem mm_isListener (d nl : Nat) {np : Nat} (I : zI) (J : zJ) (hn : I 17 1 = nI np) (x : Int32) : z_C yX4_isListener cX4_isListener 2 (some .boolean) d [.ref 17, .int x] (z_s nl) I J 0 0 (z_q (some (.int (nI (z_isx x np).toNat))) (z_s nl) I J) := by
  refine z_C.of (by decide) (Nat.le_of_ble_eq_true rfl) fun K E X => ?_
  have no : z_isx x np = false → z_V K 16 [(0, .ref 17), (1, .int x)] [] (z_s nl) I J 0 0 := by
    intro e
    refine v_iconst (v := nI 0) E dX4_isListener_16 (by decide) ?_
    exact v_zret E X dX4_isListener_17 (by first | exact Or.inl rfl | exact Or.inr rfl) (z_qi (by rw [e]; rfl))
  refine v_iload_n E dX4_isListener_0 rfl ?_
  refine v_if_lt (tgt := 16) E dX4_isListener_1 (by decide)  (fun c => ?_) (fun c => ?_)
  · exact no (decide_eq_false (fun z => z.1 c))
  · refine v_iload_n E dX4_isListener_4 rfl ?_
    refine v_aload_n E dX4_isListener_5 rfl ?_
    refine v_getIE E f_X4_13 dX4_isListener_6 rfl rfl hn ?_
    refine v_icmp_ge (tgt := 16) E dX4_isListener_9 (by decide)  (fun c1 => ?_) (fun c1 => ?_)
    · exact no (decide_eq_false (fun z => absurd z.2 (Int32.not_lt.mpr c1)))
    · refine v_iconst (v := nI 1) E dX4_isListener_12 (by decide) ?_
      refine v_goto (tgt := 17) E dX4_isListener_13 (by decide) ?_
      have e : z_isx x np = true := decide_eq_true ⟨c, Int32.not_le.mp c1⟩
      exact v_zret E X dX4_isListener_17 (by first | exact Or.inl rfl | exact Or.inr rfl) (z_qi (by rw [e]; rfl))
theorem mm_isCall (d nl : Nat) {np : Nat} (I : zI) (J : zJ) (hn : I 17 2 = nI np) (x : Int32) : z_C yX4_isCall cX4_isCall 2 (some .boolean) d [.ref 17, .int x] (z_s nl) I J 0 0 (z_q (some (.int (nI (z_isx x np).toNat))) (z_s nl) I J) := by
  refine z_C.of (by decide) (Nat.le_of_ble_eq_true rfl) fun K E X => ?_
  have no : z_isx x np = false → z_V K 16 [(0, .ref 17), (1, .int x)] [] (z_s nl) I J 0 0 := by
    intro e
    refine v_iconst (v := nI 0) E dX4_isCall_16 (by decide) ?_
    exact v_zret E X dX4_isCall_17 (by first | exact Or.inl rfl | exact Or.inr rfl) (z_qi (by rw [e]; rfl))
  refine v_iload_n E dX4_isCall_0 rfl ?_
  refine v_if_lt (tgt := 16) E dX4_isCall_1 (by decide)  (fun c => ?_) (fun c => ?_)
  · exact no (decide_eq_false (fun z => z.1 c))
  · refine v_iload_n E dX4_isCall_4 rfl ?_
    refine v_aload_n E dX4_isCall_5 rfl ?_
    refine v_getIE E f_X4_16 dX4_isCall_6 rfl rfl hn ?_
    refine v_icmp_ge (tgt := 16) E dX4_isCall_9 (by decide)  (fun c1 => ?_) (fun c1 => ?_)
    · exact no (decide_eq_false (fun z => absurd z.2 (Int32.not_lt.mpr c1)))
    · refine v_iconst (v := nI 1) E dX4_isCall_12 (by decide) ?_
      refine v_goto (tgt := 17) E dX4_isCall_13 (by decide) ?_
      have e : z_isx x np = true := decide_eq_true ⟨c, Int32.not_le.mp c1⟩
      exact v_zret E X dX4_isCall_17 (by first | exact Or.inl rfl | exact Or.inr rfl) (z_qi (by rw [e]; rfl))
theorem mm_isMask (d nl : Nat) {np : Nat} (I : zI) (J : zJ) (hn : I 17 0 = nI np) (h10 : np ≤ 10) (x : Int32) : z_C yX4_isMask cX4_isMask 2 (some .boolean) d [.ref 17, .int x] (z_s nl) I J 0 0 (z_q (some (.int (nI (z_msk x np).toNat))) (z_s nl) I J) := by
  refine z_C.of (by decide) (Nat.le_of_ble_eq_true rfl) fun K E X => ?_
  have no : z_msk x np = false → z_V K 18 [(0, .ref 17), (1, .int x)] [] (z_s nl) I J 0 0 := by
    intro e
    refine v_iconst (v := nI 0) E dX4_isMask_18 (by decide) ?_
    exact v_zret E X dX4_isMask_19 (by first | exact Or.inl rfl | exact Or.inr rfl) (z_qi (by rw [e]; rfl))
  refine v_iload_n E dX4_isMask_0 rfl ?_
  refine v_if_le (tgt := 18) E dX4_isMask_1 (by decide)  (fun c => ?_) (fun c => ?_)
  · exact no (decide_eq_false (fun z => z.1 c))
  · refine v_iload_n E dX4_isMask_4 rfl ?_
    refine v_iconst (v := nI 1) E dX4_isMask_5 (by decide) ?_
    refine v_aload_n E dX4_isMask_6 rfl ?_
    refine v_getIE E f_X4_7 dX4_isMask_7 rfl rfl hn ?_
    refine v_ishlN E dX4_isMask_10 (by omega) ?_
    refine v_p2 ?_
    refine v_icmp_ge (tgt := 18) E dX4_isMask_11 (by decide)  (fun c1 => ?_) (fun c1 => ?_)
    · exact no (decide_eq_false (fun z => absurd z.2 (Int32.not_lt.mpr c1)))
    · refine v_iconst (v := nI 1) E dX4_isMask_14 (by decide) ?_
      refine v_goto (tgt := 19) E dX4_isMask_15 (by decide) ?_
      have e : z_msk x np = true := decide_eq_true ⟨c, Int32.not_le.mp c1⟩
      exact v_zret E X dX4_isMask_19 (by first | exact Or.inl rfl | exact Or.inr rfl) (z_qi (by rw [e]; rfl))
theorem mm_bytes (d nl : Nat) (s : zS) (hw : s_wf s) (I : zI) (J : zJ) (hm : mI s I J) (x : Int32) : z_C yX4_bytes cX4_bytes 2 (some .long) (d + 1) [.ref 17, .int x] (z_s nl) I J 0 0 (z_q (some (.long (r_bytes s x))) (z_s nl) I J) := by
  have w1 := hw.1
  refine z_C.of (by decide) (Nat.le_of_ble_eq_true rfl) fun K E X => ?_
  refine v_aload_n E dX4_bytes_0 rfl ?_
  refine v_iload_n E dX4_bytes_1 rfl ?_
  refine v_callV1 E dX4_bytes_2 k_X4_88 Y_X4_isPiece (mm_isPiece d nl I J hm.1 x) rfl rfl rfl (Nat.le_of_ble_eq_true rfl) ?_
  refine v_if_eqB (tgt := 17) E dX4_bytes_5 (by decide)  (fun e => ?_) (fun e => ?_)
  · refine v_lconst (v := lN 0) E dX4_bytes_17 (by decide) ?_
    exact v_lret E X dX4_bytes_18 (z_ql (by unfold r_bytes; rw [e]; rfl))
  · obtain ⟨p, hp, rfl⟩ := z_isx_true (by omega) e
    refine v_aload_n E dX4_bytes_8 rfl ?_
    refine v_getR E f_X4_19 dX4_bytes_9 rfl rfl rfl ?_
    refine v_iload_n E dX4_bytes_12 rfl ?_
    refine v_laloadE E dX4_bytes_13 rfl rfl (by omega) (by decide) (hm.2.2.2.1 p hp) ?_
    refine v_goto (tgt := 18) E dX4_bytes_14 (by decide) ?_
    exact v_lret E X dX4_bytes_18 (z_ql (by unfold r_bytes; rw [e, nI_clamp (by omega)]; rfl))
theorem mm_sumOf (d nl : Nat) (s : zS) (hw : s_wf s) (I : zI) (J : zJ) (hm : mI s I J) (m : Nat) (hm1 : m < 1024) : z_C yX4_sumOf cX4_sumOf 5 (some .long) d [.ref 17, .int (nI m)] (z_s nl) I J 0 0 (z_q (some (.long (q_sum (s_pv s) m (s_np s)))) (z_s nl) I J) := by
  have w1 := hw.1
  have hn := hm.1
  refine z_C.of (by decide) (Nat.le_of_ble_eq_true rfl) fun K E X => ?_
  refine v_lconst (v := lN 0) E dX4_sumOf_0 (by decide) ?_
  refine v_lstore_n E dX4_sumOf_1 (by decide) ?_
  refine v_iconst (v := nI 0) E dX4_sumOf_2 (by decide) ?_
  refine v_istore E dX4_sumOf_3 (by decide) ?_
  have loop : ∀ k, k ≤ s_np s → z_V K 5 [(0, .ref 17), (1, .int (nI m)), (2, .long (q_sum (s_pv s) m k)), (4, .int (nI k))] [] (z_s nl) I J 0 0 := by
    refine z_for (s_np s) ?_ (fun k hk1 ih => ?_)
    · refine v_iload E dX4_sumOf_5 rfl ?_
      refine v_aload_n E dX4_sumOf_7 rfl ?_
      refine v_getIE E f_X4_7 dX4_sumOf_8 rfl rfl hn ?_
      refine v_icmp_geN (tgt := 40) E dX4_sumOf_11 (by decide) (by omega) (by omega) (fun c => ?_) (fun c => ?_)
      · refine v_lload_n E dX4_sumOf_40 rfl ?_
        exact v_lret E X dX4_sumOf_41 z_qq
      · exact absurd c (by omega)
    · refine v_iload E dX4_sumOf_5 rfl ?_
      refine v_aload_n E dX4_sumOf_7 rfl ?_
      refine v_getIE E f_X4_7 dX4_sumOf_8 rfl rfl hn ?_
      refine v_icmp_geN (tgt := 40) E dX4_sumOf_11 (by decide) (by omega) (by omega) (fun c => ?_) (fun c => ?_)
      · exact absurd c (by omega)
      · refine v_iload_n E dX4_sumOf_14 rfl ?_
        refine v_iload E dX4_sumOf_15 rfl ?_
        refine v_ishrN E dX4_sumOf_17 (by omega) (by omega) ?_
        refine v_iconst (v := nI 1) E dX4_sumOf_18 (by decide) ?_
        refine v_iandN E dX4_sumOf_19 ?_
        refine v_tb ?_
        have e : q_sum (s_pv s) m (k + 1) = if m.testBit k then q_sum (s_pv s) m k ^^^ s_pv s k else q_sum (s_pv s) m k := rfl
        refine v_iconst (v := nI 1) E dX4_sumOf_20 (by decide) ?_
        refine v_icmp_neB (tgt := 34) E dX4_sumOf_21 (by decide)  (fun c2 => ?_) (fun c2 => ?_)
        · rw [c2] at e
          refine v_inc E dX4_sumOf_34 rfl (by decide) ?_
          refine v_goto (tgt := 5) E dX4_sumOf_37 (by decide) ?_
          rw [e] at ih
          exact ih
        · rw [c2] at e
          refine v_lload_n E dX4_sumOf_24 rfl ?_
          refine v_aload_n E dX4_sumOf_25 rfl ?_
          refine v_getR E f_X4_19 dX4_sumOf_26 rfl rfl rfl ?_
          refine v_iload E dX4_sumOf_29 rfl ?_
          refine v_laloadE E dX4_sumOf_31 rfl rfl (by omega) (by decide) (hm.2.2.2.1 k hk1) ?_
          refine v_lxor E dX4_sumOf_32 ?_
          refine v_lstore_n E dX4_sumOf_33 (by decide) ?_
          refine v_inc E dX4_sumOf_34 rfl (by decide) ?_
          refine v_goto (tgt := 5) E dX4_sumOf_37 (by decide) ?_
          rw [e] at ih
          exact ih
  exact loop 0 (by omega)
theorem mm_sum (d nl : Nat) (s : zS) (hw : s_wf s) (I : zI) (J : zJ) (hm : mI s I J) (x : Int32) : z_C yX4_sum cX4_sum 2 (some .long) (d + 1) [.ref 17, .int x] (z_s nl) I J 0 0 (z_q (some (.long (r_sum s x))) (z_s nl) I J) := by
  have w3 := hw.2.2.1
  have m10 := hm.2.2.2.2.2.2.2.2.2.1
  refine z_C.of (by decide) (Nat.le_of_ble_eq_true rfl) fun K E X => ?_
  refine v_aload_n E dX4_sum_0 rfl ?_
  refine v_iload_n E dX4_sum_1 rfl ?_
  refine v_callV1 E dX4_sum_2 k_X4_109 Y_X4_isCall (mm_isCall d nl I J hm.2.2.1 x) rfl rfl rfl (Nat.le_of_ble_eq_true rfl) ?_
  refine v_if_eqB (tgt := 21) E dX4_sum_5 (by decide)  (fun e => ?_) (fun e => ?_)
  · refine v_lconst (v := lN 0) E dX4_sum_21 (by decide) ?_
    exact v_lret E X dX4_sum_22 (z_ql (by unfold r_sum; rw [e]; rfl))
  · obtain ⟨c, hc, rfl⟩ := z_isx_true (by omega) e
    have hb := p2_10 hw.1 (hw.2.2.2.2.2.2.2.1 c hc).2.1
    refine v_aload_n E dX4_sum_8 rfl ?_
    refine v_aload_n E dX4_sum_9 rfl ?_
    refine v_getR E f_X4_40 dX4_sum_10 rfl rfl rfl ?_
    refine v_iload_n E dX4_sum_13 rfl ?_
    refine v_ialoadE E dX4_sum_14 rfl rfl (by omega) (by decide) (m10 c hc) ?_
    refine v_callV1 E dX4_sum_15 k_X4_112 Y_X4_sumOf (mm_sumOf d nl s hw I J hm (s_cm s c) hb) rfl rfl rfl (Nat.le_of_ble_eq_true rfl) ?_
    refine v_goto (tgt := 22) E dX4_sum_18 (by decide) ?_
    exact v_lret E X dX4_sum_22 (z_ql (by unfold r_sum; rw [e, nI_clamp (by omega)]; rfl))
theorem mm_heard (d nl : Nat) (s : zS) (hw : s_wf s) (I : zI) (J : zJ) (hm : mI s I J) (x y : Int32) : z_C yX4_heard cX4_heard 3 (some .int) (d + 1) [.ref 17, .int x, .int y] (z_s nl) I J 0 0 (z_q (some (.int (r_heard s x y))) (z_s nl) I J) := by
  have w2 := hw.2.1
  have w3 := hw.2.2.1
  have m11 := hm.2.2.2.2.2.2.2.2.2.2
  refine z_C.of (by decide) (Nat.le_of_ble_eq_true rfl) fun K E X => ?_
  have no : (z_isx x (s_nl s) && z_isx y (s_nc s)) = false → z_V K 16 [(0, .ref 17), (1, .int x), (2, .int y)] [] (z_s nl) I J 0 0 := by
    intro e
    refine v_iconst (v := -1) E dX4_heard_16 (by decide) ?_
    refine v_goto (tgt := 30) E dX4_heard_17 (by decide) ?_
    exact v_iret E X dX4_heard_30 (z_qi (by unfold r_heard; rw [e]; rfl))
  refine v_aload_n E dX4_heard_0 rfl ?_
  refine v_iload_n E dX4_heard_1 rfl ?_
  refine v_callV1 E dX4_heard_2 k_X4_92 Y_X4_isListener (mm_isListener d nl I J hm.2.1 x) rfl rfl rfl (Nat.le_of_ble_eq_true rfl) ?_
  refine v_if_eqB (tgt := 16) E dX4_heard_5 (by decide)  (fun e1 => ?_) (fun e1 => ?_)
  · exact no (by rw [e1]; rfl)
  · refine v_aload_n E dX4_heard_8 rfl ?_
    refine v_iload_n E dX4_heard_9 rfl ?_
    refine v_callV1 E dX4_heard_10 k_X4_109 Y_X4_isCall (mm_isCall d nl I J hm.2.2.1 y) rfl rfl rfl (Nat.le_of_ble_eq_true rfl) ?_
    refine v_if_neB (tgt := 20) E dX4_heard_13 (by decide)  (fun e2 => ?_) (fun e2 => ?_)
    · obtain ⟨l, hl, rfl⟩ := z_isx_true (by omega) e1
      obtain ⟨c, hc, rfl⟩ := z_isx_true (by omega) e2
      have hb : s_hb s c < 1024 := p2_10 w2 (hw.2.2.2.2.2.2.2.1 c hc).2.2
      refine v_aload_n E dX4_heard_20 rfl ?_
      refine v_getR E f_X4_43 dX4_heard_21 rfl rfl rfl ?_
      refine v_iload_n E dX4_heard_24 rfl ?_
      refine v_ialoadE E dX4_heard_25 rfl rfl (by omega) (by decide) (m11 c hc) ?_
      refine v_iload_n E dX4_heard_26 rfl ?_
      refine v_ishrN E dX4_heard_27 (by omega) (by omega) ?_
      refine v_iconst (v := nI 1) E dX4_heard_28 (by decide) ?_
      refine v_iandN E dX4_heard_29 ?_
      refine v_tb ?_
      exact v_iret E X dX4_heard_30 (z_qi (by unfold r_heard; rw [e1, e2, nI_clamp (by omega), nI_clamp (by omega)]; rfl))
    · exact no (by rw [e1, e2]; rfl)
theorem q_single : ∀ m, m < 1024 → 0 < m → ((m &&& (m - 1) = 0) ↔ q_pop m = 1) := by decide +kernel
theorem mm_isSingle (d nl : Nat) (I : zI) (J : zJ) (m : Nat) (h0 : 0 < m) (hm : m < 1024) : z_C yX4_isSingle cX4_isSingle 2 (some .boolean) d [.ref 17, .int (nI m)] (z_s nl) I J 0 0 (z_q (some (.int (nI (decide (q_pop m = 1)).toNat))) (z_s nl) I J) := by
  have hs := q_single m hm h0
  have hl : m &&& (m - 1) < 1024 := Nat.lt_of_le_of_lt Nat.and_le_left hm
  refine z_C.of (by decide) (Nat.le_of_ble_eq_true rfl) fun K E X => ?_
  refine v_iload_n E dX4_isSingle_0 rfl ?_
  refine v_iload_n E dX4_isSingle_1 rfl ?_
  refine v_iconst (v := nI 1) E dX4_isSingle_2 (by decide) ?_
  refine v_isubN E dX4_isSingle_3 (by omega) ?_
  refine v_iandN E dX4_isSingle_4 ?_
  refine v_if_neN (tgt := 12) E dX4_isSingle_5 (by decide) (by omega) (fun c => ?_) (fun c => ?_)
  · refine v_iconst (v := nI 0) E dX4_isSingle_12 (by decide) ?_
    exact v_zret E X dX4_isSingle_13 (by first | exact Or.inl rfl | exact Or.inr rfl) (z_qi (by rw [decide_eq_false (fun z => by have := hs.mpr z; omega)]; rfl))
  · refine v_iconst (v := nI 1) E dX4_isSingle_8 (by decide) ?_
    refine v_goto (tgt := 13) E dX4_isSingle_9 (by decide) ?_
    exact v_zret E X dX4_isSingle_13 (by first | exact Or.inl rfl | exact Or.inr rfl) (z_qi (by rw [decide_eq_true (hs.mp c)]; rfl))
theorem mm_holds (d nl : Nat) (s : zS) (hw : s_wf s) (I : zI) (J : zJ) (hm : mI s I J) (l : Nat) (hl : l < s_nl s) (m : Nat) (hm1 : m < 1024) : z_C yX4_holds cX4_holds 4 (some .boolean) d [.ref 17, .int (nI l), .int (nI m)] (z_s nl) I J 0 0 (z_q (some (.int (nI (!decide (∀ k, k < s_hm s l → s_hs s l k ≠ m)).toNat))) (z_s nl) I J) := by
  obtain ⟨w1, w2, w3, w4, w5, w6, w7, w8, w9, w10⟩ := hw
  obtain ⟨m1, m2, m3, m4, m5, m6, m7, m8, m9, m10, m11⟩ := hm
  have h12 := w6 l
  refine z_C.of (by decide) (Nat.le_of_ble_eq_true rfl) fun K E X => ?_
  refine v_iconst (v := nI 0) E dX4_holds_0 (by decide) ?_
  refine v_istore_n E dX4_holds_1 (by decide) ?_
  have loop : ∀ k, k ≤ s_hm s l → (∀ j, j < k → s_hs s l j ≠ m) → z_V K 2 [(0, .ref 17), (1, .int (nI l)), (2, .int (nI m)), (3, .int (nI k))] [] (z_s nl) I J 0 0 := by
    refine z_for (s_hm s l) ?_ (fun k hk1 ih => ?_)
    · intro ha
      refine v_iload_n E dX4_holds_2 rfl ?_
      refine v_aload_n E dX4_holds_3 rfl ?_
      refine v_getR E f_X4_30 dX4_holds_4 rfl rfl rfl ?_
      refine v_iload_n E dX4_holds_7 rfl ?_
      refine v_ialoadE E dX4_holds_8 rfl rfl (by omega) (by decide) (m7 l (by omega)) ?_
      refine v_icmp_geN (tgt := 35) E dX4_holds_9 (by decide) (by omega) (by omega) (fun c => ?_) (fun c => ?_)
      · refine v_iconst (v := nI 0) E dX4_holds_35 (by decide) ?_
        exact v_zret E X dX4_holds_36 (by first | exact Or.inl rfl | exact Or.inr rfl) (z_qi (by rw [decide_eq_true ha]; rfl))
      · exact absurd c (by omega)
    · intro ha
      have hb := p2_10 w1 (w7 l k hk1).2
      refine v_iload_n E dX4_holds_2 rfl ?_
      refine v_aload_n E dX4_holds_3 rfl ?_
      refine v_getR E f_X4_30 dX4_holds_4 rfl rfl rfl ?_
      refine v_iload_n E dX4_holds_7 rfl ?_
      refine v_ialoadE E dX4_holds_8 rfl rfl (by omega) (by decide) (m7 l (by omega)) ?_
      refine v_icmp_geN (tgt := 35) E dX4_holds_9 (by decide) (by omega) (by omega) (fun c => ?_) (fun c => ?_)
      · exact absurd c (by omega)
      · refine v_aload_n E dX4_holds_12 rfl ?_
        refine v_getR E f_X4_33 dX4_holds_13 rfl rfl rfl ?_
        refine v_bipush (v := nI 12) E dX4_holds_16 (by decide) ?_
        refine v_iload_n E dX4_holds_18 rfl ?_
        refine v_imulN E dX4_holds_19 ?_
        refine v_iload_n E dX4_holds_20 rfl ?_
        refine v_iaddN E dX4_holds_21 ?_
        refine v_ialoadE E dX4_holds_22 rfl rfl (by omega) (by decide) (m8 l k (by omega) hk1) ?_
        refine v_iload_n E dX4_holds_23 rfl ?_
        refine v_icmp_neN (tgt := 29) E dX4_holds_24 (by decide) (by omega) (by omega) (fun c2 => ?_) (fun c2 => ?_)
        · refine v_inc E dX4_holds_29 rfl (by decide) ?_
          refine v_goto (tgt := 2) E dX4_holds_32 (by decide) ?_
          exact ih (fun j hj => by
            by_cases e : j = k
            · subst e; exact c2
            · exact ha j (by omega))
        · refine v_iconst (v := nI 1) E dX4_holds_27 (by decide) ?_
          exact v_zret E X dX4_holds_28 (by first | exact Or.inl rfl | exact Or.inr rfl) (z_qi (by rw [decide_eq_false (fun z => z k hk1 c2)]; rfl))
  exact loop 0 (by omega) (fun j hj => absurd hj (Nat.not_lt_zero j))
