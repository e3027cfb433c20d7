/-! THE NEEDS, in order: pairs of listener and piece -/
def n_p (w l : Nat) : Nat → List (Nat × Nat)
  | 0 => []
  | k + 1 => if w.testBit k then n_p w l k ++ [(l, k)] else n_p w l k
def n_l (W : Nat → Nat) (np : Nat) : Nat → List (Nat × Nat)
  | 0 => []
  | k + 1 => n_l W np k ++ n_p (W k) k np
/-- what a listener lacks; what it wants and lacks -/
def s_lk (s : zS) (l : Nat) : Nat := q_df (2 ^ s_np s - 1) (s_wo s l)
def s_nw (s : zS) (l : Nat) : Nat := s_wt s l &&& s_lk s l
def s_nd (s : zS) : List (Nat × Nat) := n_l (s_nw s) (s_np s) (s_nl s)
/-- need i: its listener, its piece -/
def n_w (L : List (Nat × Nat)) (i : Nat) : Nat := (L.getD i (0, 0)).1
def n_q (L : List (Nat × Nat)) (i : Nat) : Nat := (L.getD i (0, 0)).2
theorem n_p_len (w l : Nat) : ∀ k, (n_p w l k).length ≤ k
  | 0 => Nat.le_refl _
  | k + 1 => by
    have ih := n_p_len w l k
    simp only [n_p]
    split
    · simp only [List.length_append, List.length_singleton]
      omega
    · omega
theorem n_l_len (W : Nat → Nat) (np : Nat) : ∀ k, (n_l W np k).length ≤ np * k
  | 0 => Nat.zero_le _
  | k + 1 => by
    have ih := n_l_len W np k
    have h2 := n_p_len (W k) k np
    simp only [n_l, List.length_append]
    rw [Nat.mul_succ]
    omega
theorem n_p_mem {w l : Nat} {x : Nat × Nat} : ∀ {k : Nat}, x ∈ n_p w l k → x.1 = l ∧ x.2 < k ∧ w.testBit x.2 = true
  | k + 1, h => by
    simp only [n_p] at h
    split at h
    · rename_i hb
      rcases List.mem_append.mp h with h | h
      · have := n_p_mem h
        exact ⟨this.1, by omega, this.2.2⟩
      · rw [List.mem_singleton] at h
        subst h
        exact ⟨rfl, by show k < k + 1; omega, hb⟩
    · have := n_p_mem h
      exact ⟨this.1, by omega, this.2.2⟩
theorem n_l_mem {W : Nat → Nat} {np : Nat} {x : Nat × Nat} : ∀ {k : Nat}, x ∈ n_l W np k → x.1 < k ∧ x.2 < np ∧ (W x.1).testBit x.2 = true
  | k + 1, h => by
    simp only [n_l] at h
    rcases List.mem_append.mp h with h | h
    · have := n_l_mem h
      exact ⟨by omega, this.2⟩
    · have := n_p_mem h
      exact ⟨by omega, this.2.1, by rw [this.1]; exact this.2.2⟩
theorem s_nd_at {s : zS} {i : Nat} (hi : i < (s_nd s).length) : n_w (s_nd s) i < s_nl s ∧ n_q (s_nd s) i < s_np s ∧ (s_nw s (n_w (s_nd s) i)).testBit (n_q (s_nd s) i) = true := by
  have h := n_l_mem (x := (s_nd s).getD i (0, 0)) (W := s_nw s) (np := s_np s) (k := s_nl s) (by
    rw [List.getD_eq_getElem?_getD, List.getElem?_eq_getElem hi]
    exact List.getElem_mem hi)
  exact h
theorem n_w_app {L M : List (Nat × Nat)} {i : Nat} (h : i < L.length) : n_w (L ++ M) i = n_w L i ∧ n_q (L ++ M) i = n_q L i := by
  unfold n_w n_q
  rw [List.getD_eq_getElem?_getD, List.getD_eq_getElem?_getD, List.getElem?_append_left h]
  exact ⟨rfl, rfl⟩
theorem n_w_last {L : List (Nat × Nat)} {x : Nat × Nat} : n_w (L ++ [x]) L.length = x.1 ∧ n_q (L ++ [x]) L.length = x.2 := by
  unfold n_w n_q
  rw [List.getD_eq_getElem?_getD, List.getElem?_append_right (Nat.le_refl _), Nat.sub_self]
  exact ⟨rfl, rfl⟩
theorem s_nd_len {s : zS} (hw : s_wf s) : (s_nd s).length ≤ 100 := by
  have h := n_l_len (s_nw s) (s_np s) (s_nl s)
  have h2 : s_np s * s_nl s ≤ 10 * 10 := Nat.mul_le_mul hw.1 hw.2.1
  exact Nat.le_trans h h2
/-- what the cells of Needs hold -/
def ndI (s : zS) (L : List (Nat × Nat)) (I : zI) : Prop := I 7 2 = nI L.length ∧ ∀ i, i < L.length → I 8 i = nI (n_w L i) ∧ I 9 i = nI (n_q L i) ∧ I 10 i = nI (s_lk s (n_w L i))
theorem m_put (d nl : Nat) (I : zI) (J : zJ) (n a b c : Nat) (hn : I 7 2 = nI n) (h100 : n < 100) : z_C yX2_put cX2_put 4 none d [.ref 7, .int (nI a), .int (nI b), .int (nI c)] (z_s nl) I J 0 0 (z_q none (z_s nl) (z_u (z_u (z_u (z_u I 8 n (nI a)) 9 n (nI b)) 10 n (nI c)) 7 2 (nI (n + 1))) J) := by
  refine z_C.of (by decide) (Nat.le_of_ble_eq_true rfl) fun K E X => ?_
  refine v_aload_n E dX2_put_0 rfl ?_
  refine v_getIE E f_X2_27 dX2_put_1 rfl rfl hn ?_
  refine v_aload_n E dX2_put_4 rfl ?_
  refine v_getR E f_X2_9 dX2_put_5 rfl rfl rfl ?_
  refine v_arraylength E dX2_put_8 rfl (by decide) (by decide) rfl ?_
  refine v_icmp_geN (tgt := 52) E dX2_put_9 (by decide) (by omega) (by omega) (fun e => ?_) (fun e => ?_)
  · exact absurd e (by omega)
  · refine v_aload_n E dX2_put_12 rfl ?_
    refine v_getR E f_X2_9 dX2_put_13 rfl rfl rfl ?_
    refine v_aload_n E dX2_put_16 rfl ?_
    refine v_getIE E f_X2_27 dX2_put_17 rfl rfl hn ?_
    refine v_iload_n E dX2_put_20 rfl ?_
    refine v_iastore E dX2_put_21 rfl rfl (by omega) (by decide) ?_
    refine v_aload_n E dX2_put_22 rfl ?_
    refine v_getR E f_X2_15 dX2_put_23 rfl rfl rfl ?_
    refine v_aload_n E dX2_put_26 rfl ?_
    refine v_getIE E f_X2_27 dX2_put_27 rfl rfl (show z_u I 8 n (nI a) 7 2 = nI n by rw [z_u_row (by decide)]; exact hn) ?_
    refine v_iload_n E dX2_put_30 rfl ?_
    refine v_iastore E dX2_put_31 rfl rfl (by omega) (by decide) ?_
    refine v_aload_n E dX2_put_32 rfl ?_
    refine v_getR E f_X2_18 dX2_put_33 rfl rfl rfl ?_
    refine v_aload_n E dX2_put_36 rfl ?_
    refine v_getIE E f_X2_27 dX2_put_37 rfl rfl (show z_u (z_u I 8 n (nI a)) 9 n (nI b) 7 2 = nI n by rw [z_u_row (by decide), z_u_row (by decide)]; exact hn) ?_
    refine v_iload_n E dX2_put_40 rfl ?_
    refine v_iastore E dX2_put_41 rfl rfl (by omega) (by decide) ?_
    refine v_aload_n E dX2_put_42 rfl ?_
    refine v_dup E dX2_put_43 rfl ?_
    refine v_getIE E f_X2_27 dX2_put_44 rfl rfl (show z_u (z_u (z_u I 8 n (nI a)) 9 n (nI b)) 10 n (nI c) 7 2 = nI n by rw [z_u_row (by decide), z_u_row (by decide), z_u_row (by decide)]; exact hn) ?_
    refine v_iconst (v := nI 1) E dX2_put_47 (by decide) ?_
    refine v_iaddN E dX2_put_48 ?_
    refine v_putI E f_X2_27 dX2_put_49 rfl rfl rfl rfl (by decide) ?_
    exact v_vret E X dX2_put_52 z_qq
theorem ndI_put {s : zS} {L : List (Nat × Nat)} {I : zI} {l p : Nat} (h : ndI s L I) : ndI s (L ++ [(l, p)]) (z_u (z_u (z_u (z_u I 8 L.length (nI l)) 9 L.length (nI p)) 10 L.length (nI (s_lk s l))) 7 2 (nI (L.length + 1))) := by
  refine ⟨?_, fun i hi => ?_⟩
  · rw [z_u_same, List.length_append]
    rfl
  · rw [List.length_append, List.length_singleton] at hi
    rw [z_u_row (a := 7) (b := 8) (by decide), z_u_row (a := 10) (b := 8) (by decide), z_u_row (a := 9) (b := 8) (by decide), z_u_row (a := 7) (b := 9) (by decide), z_u_row (a := 10) (b := 9) (by decide), z_u_row (a := 7) (b := 10) (by decide)]
    by_cases e : i = L.length
    · rw [e, z_u_same, z_u_same, z_u_same, n_w_last.1, n_w_last.2]
      exact ⟨rfl, rfl, rfl⟩
    · have hi2 : i < L.length := by omega
      rw [z_u_col e, z_u_col e, z_u_col e, z_u_row (a := 8) (b := 9) (by decide), z_u_row (a := 9) (b := 10) (by decide), z_u_row (a := 8) (b := 10) (by decide), (n_w_app hi2).1, (n_w_app hi2).2]
      exact h.2 i hi2
/-- the class's cells but for what calls use for themselves -/
def cFr (I I' : zI) : Prop := ∀ q, (q < 7 ∨ 16 < q) → I' q = I q
theorem cI_scr {s : zS} {I I' : zI} {J J' : zJ} (hc : cI s I J) (hI : cFr I I') (hJ : ∀ q, (q < 7 ∨ 16 < q) → J' q = J q) : cI s I' J' := by
  obtain ⟨c1, c2, c3, c4, c5, c6, c7, c8⟩ := hc
  refine ⟨?_, ?_, ?_, ?_, ?_, ?_, ?_, ?_⟩
  · rw [hI 1 (by omega)]; exact c1
  · rw [hI 1 (by omega)]; exact c2
  · rw [hI 3 (by omega)]; exact c3
  · rw [hJ 2 (by omega)]; exact c4
  · rw [hI 4 (by omega)]; exact c5
  · rw [hI 5 (by omega)]; exact c6
  · rw [hI 6 (by omega)]; exact c7
  · intro l hl
    have := z_pl_37 l
    exact lsI_kept (c8 l hl) (fun q q1 q2 => ⟨hI q (by omega), hJ q (by omega)⟩)
def fnI (I I' : zI) : Prop := ∀ q, q ≠ 7 → q ≠ 8 → q ≠ 9 → q ≠ 10 → I' q = I q
theorem m_findNeeds (d : Nat) (s : zS) (hw : s_wf s) (I : zI) (J : zJ) (hc : cI s I J) : z_C yX3_findNeeds cX3_findNeeds 5 none (d + 3) [.ref 1] (z_s (s_nl s)) I J 0 0 (fun r h' I' J' => r = none ∧ h' = z_s (s_nl s) ∧ ndI s (s_nd s) I' ∧ fnI I I' ∧ J' = J) := by
  have w1 := hw.1
  have w2 := hw.2.1
  have hall := p2_lt w1
  have fcI : ∀ I', fnI I I' → cI s I' J := fun I' hf => cI_scr hc (fun q hq => hf q (by omega) (by omega) (by omega) (by omega)) (fun _ _ => rfl)
  refine z_C.of (by decide) (Nat.le_of_ble_eq_true rfl) fun K E X => ?_
  refine v_aload_n E dX3_findNeeds_0 rfl ?_
  refine v_getR E f_X3_33 dX3_findNeeds_1 rfl rfl rfl ?_
  refine v_iconst (v := nI 0) E dX3_findNeeds_4 (by decide) ?_
  refine v_putI E f_X3_159 dX3_findNeeds_5 rfl rfl rfl rfl (by decide) ?_
  refine v_iconst (v := nI 0) E dX3_findNeeds_8 (by decide) ?_
  refine v_istore_n E dX3_findNeeds_9 (by decide) ?_
  have loop : ∀ k, k ≤ s_nl s → ∀ I' : zI, ndI s (n_l (s_nw s) (s_np s) k) I' → fnI I I' → z_V K 10 [(0, .ref 1), (1, .int (nI k))] [] (z_s (s_nl s)) I' J 0 0 := by
    refine z_for _ ?_ (fun k hk ih => ?_)
    · intro I' h1 h2
      have c3 := (fcI I' h2).2.2.1
      refine v_iload_n E dX3_findNeeds_10 rfl ?_
      refine v_aload_n E dX3_findNeeds_11 rfl ?_
      refine v_getR E f_X3_16 dX3_findNeeds_12 rfl rfl rfl ?_
      refine v_callV1 E dX3_findNeeds_15 k_X3_58 Y_Jx4a65c_size_8abf5 (m_size (d + 2) (s_nl s) I' J c3) rfl rfl rfl (Nat.le_of_ble_eq_true rfl) ?_
      refine v_icmp_geN (tgt := 97) E dX3_findNeeds_18 (by decide) (by omega) (by omega) (fun c => ?_) (fun c => ?_)
      · exact v_vret E X dX3_findNeeds_97 ⟨rfl, rfl, h1, h2, rfl⟩
      · exact absurd c (by omega)
    · intro I' h1 h2
      have hc' := fcI I' h2
      have c1 := hc'.1
      have c3 := hc'.2.2.1
      obtain ⟨i0, i3, i4, i5, i6, i7, i8, ir, ik, ij⟩ := hc'.2.2.2.2.2.2.2 k hk
      obtain ⟨b0, b1, b2, b3, b4, b5⟩ := s_lsB hw k
      have hlk : s_lk s k < 1024 := q_df_lt (k := 10) hall
      have hnw : s_nw s k < 1024 := q_and_lt (k := 10) b5
      refine v_iload_n E dX3_findNeeds_10 rfl ?_
      refine v_aload_n E dX3_findNeeds_11 rfl ?_
      refine v_getR E f_X3_16 dX3_findNeeds_12 rfl rfl rfl ?_
      refine v_callV1 E dX3_findNeeds_15 k_X3_58 Y_Jx4a65c_size_8abf5 (m_size (d + 2) (s_nl s) I' J c3) rfl rfl rfl (Nat.le_of_ble_eq_true rfl) ?_
      refine v_icmp_geN (tgt := 97) E dX3_findNeeds_18 (by decide) (by omega) (by omega) (fun c => ?_) (fun c => ?_)
      · exact absurd c (by omega)
      · refine v_aload_n E dX3_findNeeds_21 rfl ?_
        refine v_getR E f_X3_16 dX3_findNeeds_22 rfl rfl rfl ?_
        refine v_iload_n E dX3_findNeeds_25 rfl ?_
        refine v_callV1 E dX3_findNeeds_26 k_X3_74 Y_Jx4a65c_get_915e3 (m_get d (s_nl s) I' J c3 k hk w2) rfl rfl rfl (Nat.le_of_ble_eq_true rfl) ?_
        refine v_checkcast E dX3_findNeeds_29 c_X3_62 (by decide) (v_cc hk) ?_
        refine v_astore_n E dX3_findNeeds_32 (by decide) ?_
        refine v_aload_n E dX3_findNeeds_33 rfl ?_
        refine v_callV1 E dX3_findNeeds_34 k_X3_147 Y_X3_allPieces (m_allPieces (d + 2) (s_nl s) (s_np s) I' J c1 w1) rfl rfl rfl (Nat.le_of_ble_eq_true rfl) ?_
        refine v_aload_n E dX3_findNeeds_37 rfl ?_
        refine v_getR E f_X3_126 dX3_findNeeds_38 (v_cc hk) rfl (z_ls hk).2.2.2.2 ?_
        refine v_callV1 E dX3_findNeeds_41 k_X3_208 Y_X0_workedOut (m_workedOut (d + 1) (z_s (s_nl s)) I' J (z_pl k + 2) (z_ls hk).2.2.1 (l_f (s_rows s k)) ik.1 (l_f_lt b1)) (z_ls hk).2.2.1.1 rfl rfl (Nat.le_of_ble_eq_true rfl) ?_
        refine v_iconst (v := -1) E dX3_findNeeds_44 (by decide) ?_
        refine v_ixor E dX3_findNeeds_45 ?_
        refine v_iand E dX3_findNeeds_46 ?_
        refine v_top (show _ = nI (s_lk s k) from q_dif (2 ^ s_np s - 1) (s_wo s k)) ?_
        refine v_istore_n E dX3_findNeeds_47 (by decide) ?_
        refine v_iconst (v := nI 0) E dX3_findNeeds_48 (by decide) ?_
        refine v_istore E dX3_findNeeds_49 (by decide) ?_
        have inner : ∀ j, j ≤ s_np s → ∀ I2 : zI, ndI s (n_l (s_nw s) (s_np s) k ++ n_p (s_nw s k) k j) I2 → fnI I I2 → z_V K 51 [(0, .ref 1), (1, .int (nI k)), (2, .ref (z_pl k)), (3, .int (nI (s_lk s k))), (4, .int (nI j))] [] (z_s (s_nl s)) I2 J 0 0 := by
          refine z_for _ ?_ (fun j hj ih2 => ?_)
          · intro I2 h3 h4
            have c12 := (fcI I2 h4).1
            refine v_iload E dX3_findNeeds_51 rfl ?_
            refine v_aload_n E dX3_findNeeds_53 rfl ?_
            refine v_getIE E f_X3_51 dX3_findNeeds_54 rfl rfl c12 ?_
            refine v_icmp_geN (tgt := 91) E dX3_findNeeds_57 (by decide) (by omega) (by omega) (fun c9 => ?_) (fun c9 => ?_)
            · refine v_ls (ls2 := [(0, .ref 1), (1, .int (nI k))]) (by intro q hq; simp only [List.mem_cons, List.not_mem_nil, or_false] at hq; rcases hq with rfl | rfl <;> rfl) ?_
              refine v_inc E dX3_findNeeds_91 rfl (by decide) ?_
              refine v_goto (tgt := 10) E dX3_findNeeds_94 (by decide) ?_
              exact ih I2 h3 h4
            · exact absurd c9 (by omega)
          · intro I2 h3 h4
            have hc2 := fcI I2 h4
            have i62 := (hc2.2.2.2.2.2.2.2 k hk).2.2.2.2.1
            refine v_iload E dX3_findNeeds_51 rfl ?_
            refine v_aload_n E dX3_findNeeds_53 rfl ?_
            refine v_getIE E f_X3_51 dX3_findNeeds_54 rfl rfl hc2.1 ?_
            refine v_icmp_geN (tgt := 91) E dX3_findNeeds_57 (by decide) (by omega) (by omega) (fun c9 => ?_) (fun c9 => ?_)
            · exact absurd c9 (by omega)
            · refine v_iload E dX3_findNeeds_60 rfl ?_
              refine v_aload_n E dX3_findNeeds_62 rfl ?_
              refine v_getIE E f_X3_81 dX3_findNeeds_63 (v_cc hk) rfl i62 ?_
              refine v_iload_n E dX3_findNeeds_66 rfl ?_
              refine v_iandN E dX3_findNeeds_67 ?_
              refine v_callS1 E dX3_findNeeds_68 k_X3_84 Y_X3_isIn (m_isIn (d + 2) (z_s (s_nl s)) I2 J j (s_nw s k) (by omega) (by omega)) rfl rfl (Nat.le_of_ble_eq_true rfl) ?_
              have e5 : n_p (s_nw s k) k (j + 1) = if (s_nw s k).testBit j then n_p (s_nw s k) k j ++ [(k, j)] else n_p (s_nw s k) k j := rfl
              refine v_if_eqB (tgt := 85) E dX3_findNeeds_71 (by decide)  (fun e6 => ?_) (fun e6 => ?_)
              · rw [e6] at e5
                refine v_inc E dX3_findNeeds_85 rfl (by decide) ?_
                refine v_goto (tgt := 51) E dX3_findNeeds_88 (by decide) ?_
                exact ih2 I2 (by rw [e5]; exact h3) h4
              · rw [e6] at e5
                have hlen : (n_l (s_nw s) (s_np s) k ++ n_p (s_nw s k) k j).length < 100 := by
                  rw [List.length_append]
                  have l1 := n_l_len (s_nw s) (s_np s) k
                  have l2 := n_p_len (s_nw s k) k j
                  have l3 : s_np s * k ≤ 10 * k := Nat.mul_le_mul_right k w1
                  omega
                refine v_aload_n E dX3_findNeeds_74 rfl ?_
                refine v_getR E f_X3_33 dX3_findNeeds_75 rfl rfl rfl ?_
                refine v_iload_n E dX3_findNeeds_78 rfl ?_
                refine v_iload E dX3_findNeeds_79 rfl ?_
                refine v_iload_n E dX3_findNeeds_81 rfl ?_
                refine v_callV0 E dX3_findNeeds_82 k_X3_211 Y_X2_put (m_put (d + 2) (s_nl s) I2 J _ k j (s_lk s k) h3.1 hlen) rfl rfl rfl (Nat.le_of_ble_eq_true rfl) ?_
                refine v_inc E dX3_findNeeds_85 rfl (by decide) ?_
                refine v_goto (tgt := 51) E dX3_findNeeds_88 (by decide) ?_
                refine ih2 _ ?_ ?_
                · rw [e5]
                  show ndI s (_ ++ (n_p (s_nw s k) k j ++ [(k, j)])) _
                  rw [← List.append_assoc]
                  exact ndI_put h3
                · intro q q1 q2 q3 q4
                  rw [z_u_row q1, z_u_row q4, z_u_row q3, z_u_row q2]
                  exact h4 q q1 q2 q3 q4
        refine inner 0 (by omega) I' ?_ h2
        show ndI s (_ ++ []) I'
        rw [List.append_nil]
        exact h1
  refine loop 0 (by omega) _ ⟨z_u_same, fun i hi => absurd hi (Nat.not_lt_zero _)⟩ (fun q q1 _ _ _ => z_u_row q1)
def r_needs (s : zS) : Int32 := nI (s_nd s).length
def r_need (s : zS) (x y : Int32) : Int32 := if z_isx x (s_nd s).length then (if y = 0 then nI (n_w (s_nd s) x.toNatClampNeg) else if y = 1 then nI (n_q (s_nd s) x.toNatClampNeg) else -1) else -1
/-- the end of a call that uses cells for itself alone, on the class's side -/
def cR (s : zS) (v : Int32) (I : zI) (J : zJ) : zQ := fun r h' I' J' => r = some (.int v) ∧ h' = z_s (s_nl s) ∧ cI s I' J' ∧ mFr I J I' J'
theorem fn_cI {s : zS} {I I' : zI} {J : zJ} (hc : cI s I J) (h : fnI I I') : cI s I' J := cI_scr hc (fun q hq => h q (by omega) (by omega) (by omega) (by omega)) (fun _ _ => rfl)
theorem fn_mF {I I' : zI} {J : zJ} (h : fnI I I') : mFr I J I' J := fun q q1 q2 => ⟨h q (by omega) (by omega) (by omega) (by omega), rfl⟩
theorem m_needs (d : Nat) (s : zS) (hw : s_wf s) (I : zI) (J : zJ) (hc : cI s I J) : z_C yX3_needs cX3_needs 1 (some .int) (d + 4) [.ref 1] (z_s (s_nl s)) I J 0 0 (cR s (r_needs s) I J) := by
  refine z_C.of (by decide) (Nat.le_of_ble_eq_true rfl) fun K E X => ?_
  refine v_aload_n E dX3_needs_0 rfl ?_
  refine v_callV E dX3_needs_1 k_X3_156 Y_X3_findNeeds (m_findNeeds d s hw I J hc) rfl rfl rfl (Nat.le_of_ble_eq_true rfl) ?_
  rintro r h' I' J' ⟨rfl, rfl, g1, g2, rfl⟩
  refine v_aload_n E dX3_needs_4 rfl ?_
  refine v_getR E f_X3_33 dX3_needs_5 rfl rfl rfl ?_
  refine v_getIE E f_X3_159 dX3_needs_8 rfl rfl g1.1 ?_
  exact v_iret E X dX3_needs_11 ⟨rfl, rfl, fn_cI hc g2, fn_mF g2⟩
theorem m_need (d : Nat) (s : zS) (hw : s_wf s) (I : zI) (J : zJ) (hc : cI s I J) (x y : Int32) : z_C yX3_need cX3_need 3 (some .int) (d + 4) [.ref 1, .int x, .int y] (z_s (s_nl s)) I J 0 0 (cR s (r_need s x y) I J) := by
  have hlen := s_nd_len hw
  refine z_C.of (by decide) (Nat.le_of_ble_eq_true rfl) fun K E X => ?_
  refine v_aload_n E dX3_need_0 rfl ?_
  refine v_callV E dX3_need_1 k_X3_156 Y_X3_findNeeds (m_findNeeds d s hw I J hc) rfl rfl rfl (Nat.le_of_ble_eq_true rfl) ?_
  rintro r h' I' J' ⟨rfl, rfl, g1, g2, rfl⟩
  have no : z_isx x (s_nd s).length = false → z_V K 19 [(0, .ref 1), (1, .int x), (2, .int y)] [] (z_s (s_nl s)) I' J' 0 0 := by
    intro e
    refine v_iconst (v := -1) E dX3_need_19 (by decide) ?_
    exact v_iret E X dX3_need_20 ⟨by unfold r_need; rw [e]; rfl, rfl, fn_cI hc g2, fn_mF g2⟩
  refine v_iload_n E dX3_need_4 rfl ?_
  refine v_if_lt (tgt := 19) E dX3_need_5 (by decide)  (fun k1 => ?_) (fun k1 => ?_)
  · exact no (decide_eq_false (fun z => z.1 k1))
  · refine v_iload_n E dX3_need_8 rfl ?_
    refine v_aload_n E dX3_need_9 rfl ?_
    refine v_getR E f_X3_33 dX3_need_10 rfl rfl rfl ?_
    refine v_getIE E f_X3_159 dX3_need_13 rfl rfl g1.1 ?_
    refine v_icmp_lt (tgt := 21) E dX3_need_16 (by decide)  (fun k2 => ?_) (fun k2 => ?_)
    · have e : z_isx x (s_nd s).length = true := decide_eq_true ⟨k1, k2⟩
      have e9 := e
      obtain ⟨i, hi, rfl⟩ := z_isx_true (by omega) e
      have hr : r_need s (nI i) y = if y = 0 then nI (n_w (s_nd s) i) else if y = 1 then nI (n_q (s_nd s) i) else -1 := by
        unfold r_need
        rw [e9, nI_clamp (by omega)]
        rfl
      refine v_iload_n E dX3_need_21 rfl ?_
      by_cases y0 : y = 0
      · subst y0
        refine v_lookup (off := 26) (tgt := 48) E dX3_need_22 (by decide) (by decide) (by decide) ?_
        refine v_aload_n E dX3_need_48 rfl ?_
        refine v_getR E f_X3_33 dX3_need_49 rfl rfl rfl ?_
        refine v_getR E f_X3_161 dX3_need_52 rfl rfl rfl ?_
        refine v_iload_n E dX3_need_55 rfl ?_
        refine v_ialoadE E dX3_need_56 rfl rfl (by omega) (by decide) (g1.2 i hi).1 ?_
        exact v_iret E X dX3_need_57 ⟨by rw [hr, if_pos rfl], rfl, fn_cI hc g2, fn_mF g2⟩
      · by_cases y1 : y = 1
        · subst y1
          refine v_lookup (off := 36) (tgt := 58) E dX3_need_22 (by decide) (by decide) (by decide) ?_
          refine v_aload_n E dX3_need_58 rfl ?_
          refine v_getR E f_X3_33 dX3_need_59 rfl rfl rfl ?_
          refine v_getR E f_X3_164 dX3_need_62 rfl rfl rfl ?_
          refine v_iload_n E dX3_need_65 rfl ?_
          refine v_ialoadE E dX3_need_66 rfl rfl (by omega) (by decide) (g1.2 i hi).2.1 ?_
          exact v_iret E X dX3_need_67 ⟨by rw [hr, if_neg y0, if_pos rfl], rfl, fn_cI hc g2, fn_mF g2⟩
        · refine v_lookup (off := 46) (tgt := 68) E dX3_need_22 (by decide) ?_ (by decide) ?_
          · show Op.lookupswitch.offset [(0, 26), (1, 36)] 46 y.toInt = 46
            rw [lv_osw y0 (by decide), lv_osw y1 (by decide)]
            rfl
          · refine v_iconst (v := -1) E dX3_need_68 (by decide) ?_
            exact v_iret E X dX3_need_69 ⟨by rw [hr, if_neg y0, if_neg y1], rfl, fn_cI hc g2, fn_mF g2⟩
    · exact no (decide_eq_false (fun z => k2 z.2))
