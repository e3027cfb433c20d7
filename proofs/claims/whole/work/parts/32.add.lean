/-! ArrayList.add, and OneCall.listener -/
def z_hG (h : zH) : zH := (h.1 + 1, (z_new h 13 10).2.1, z_u (z_new h 13 10).2.2 3 1 (some (h.1 + 1)))
theorem m_grow1 (d : Nat) (h : zH) (I : zI) (J : zJ) (hn : 3 ≤ h.1) (hT : (h.2.1 3).1 = 0) (hR : h.2.2 3 1 = some 0) : z_C yJx4a65c_grow_92f84 cJx4a65c_grow_92f84 4 (some (.array (.object "java/lang/Object"))) (d + 1) [.ref 3, .int (nI 1)] h I J 1 10 (z_q (some (.ref (h.1 + 1))) (z_hG h) (z_zI h I) (z_zJ h J)) := by
  refine z_C.of (by decide) (Nat.le_of_ble_eq_true rfl) fun K E X => ?_
  refine v_aload_n E dJx4a65c_grow_92f84_0 rfl ?_
  refine v_getR E f_Jx4a65c_9 dJx4a65c_grow_92f84_1 hT rfl hR ?_
  refine v_arraylength0 E dJx4a65c_grow_92f84_4 ?_
  refine v_istore_n E dJx4a65c_grow_92f84_5 (by decide) ?_
  refine v_iload_n E dJx4a65c_grow_92f84_6 rfl ?_
  refine v_if_gt (tgt := 20) E dJx4a65c_grow_92f84_7 (by decide)  (fun c => ?_) (fun c => ?_)
  · exact absurd c (by decide)
  · refine v_aload_n E dJx4a65c_grow_92f84_10 rfl ?_
    refine v_getR E f_Jx4a65c_9 dJx4a65c_grow_92f84_11 hT rfl hR ?_
    refine v_getstatic0 E dJx4a65c_grow_92f84_14 f0_Jx4a65c_39 ?_
    refine v_acmp_eq (tgt := 45) E dJx4a65c_grow_92f84_17 (by decide)  (fun c1 => ?_) (fun c1 => ?_)
    · refine v_aload_n E dJx4a65c_grow_92f84_45 rfl ?_
      refine v_bipush (v := nI 10) E dJx4a65c_grow_92f84_46 (by decide) ?_
      refine v_iload_n E dJx4a65c_grow_92f84_48 rfl ?_
      refine v_maxN E dJx4a65c_grow_92f84_49 k_Jx4a65c_79 (by omega) (by omega) (Nat.le_of_ble_eq_true rfl) ?_
      refine v_newQ (kc := 0) (ks := 0) (N := 10) E dJx4a65c_grow_92f84_52 c_Jx4a65c_7 rfl (by decide) ?_
      refine v_dup_x1 E dJx4a65c_grow_92f84_55 rfl rfl ?_
      refine v_putR E f_Jx4a65c_9 dJx4a65c_grow_92f84_56 (show (if 3 = h.1 + 1 then _ else h.2.1 3 : Nat × Nat).1 = 0 by rw [if_neg (by omega)]; exact hT) rfl (fun _ => rfl) (fun _ => rfl) (by decide) ?_
      exact v_aret E (by first | exact Or.inl ⟨_, rfl⟩ | exact Or.inr ⟨_, rfl⟩) X dJx4a65c_grow_92f84_59 z_qq
    · exact absurd rfl c1
theorem m_grow0 (d : Nat) (h : zH) (I : zI) (J : zJ) (hn : 3 ≤ h.1) (hT : (h.2.1 3).1 = 0) (hR : h.2.2 3 1 = some 0) (hI : I 3 2 = nI 0) : z_C yJx4a65c_grow_d5877 cJx4a65c_grow_d5877 1 (some (.array (.object "java/lang/Object"))) (d + 2) [.ref 3] h I J 1 10 (z_q (some (.ref (h.1 + 1))) (z_hG h) (z_zI h I) (z_zJ h J)) := by
  refine z_C.of (by decide) (Nat.le_of_ble_eq_true rfl) fun K E X => ?_
  refine v_aload_n E dJx4a65c_grow_d5877_0 rfl ?_
  refine v_aload_n E dJx4a65c_grow_d5877_1 rfl ?_
  refine v_getIE E f_Jx4a65c_48 dJx4a65c_grow_d5877_2 hT rfl hI ?_
  refine v_iconst (v := nI 1) E dJx4a65c_grow_d5877_5 (by decide) ?_
  refine v_iaddN E dJx4a65c_grow_d5877_6 ?_
  refine v_callV (kc := 0) (ks := 0) E dJx4a65c_grow_d5877_7 k_Jx4a65c_69 Y_Jx4a65c_grow_92f84 (m_grow1 d h I J hn hT hR) hT rfl rfl (Nat.le_of_ble_eq_true rfl) ?_
  rintro r h' I' J' ⟨rfl, rfl, rfl, rfl⟩
  exact v_aret E (by first | exact Or.inl ⟨_, rfl⟩ | exact Or.inr ⟨_, rfl⟩) X dJx4a65c_grow_d5877_10 z_qq
theorem m_add3F (d : Nat) (h : zH) (I : zI) (J : zJ) (b : Nat) (hn : 3 ≤ h.1) (hT : (h.2.1 3).1 = 0) (hR : h.2.2 3 1 = some 0) (hI : I 3 2 = nI 0) (hb : (h.2.1 b).1 = 2) (hbn : b ≤ h.1) : z_C yJx4a65c_add_72be8 cJx4a65c_add_72be8 4 none (d + 3) [.ref 3, .ref b, .ref 0, .int (nI 0)] h I J 1 10 (z_q none ((z_hG h).1, (z_hG h).2.1, z_u (z_hG h).2.2 (h.1 + 1) 0 (some b)) (z_u (z_zI h I) 3 2 (nI 1)) (z_zJ h J)) := by
  have hT3 : ((z_hG h).2.1 3).1 = 0 := by
    show (if 3 = h.1 + 1 then _ else h.2.1 3 : Nat × Nat).1 = 0
    rw [if_neg (by omega)]
    exact hT
  refine z_C.of (by decide) (Nat.le_of_ble_eq_true rfl) fun K E X => ?_
  refine v_iload_n E dJx4a65c_add_72be8_0 rfl ?_
  refine v_aload_n E dJx4a65c_add_72be8_1 rfl ?_
  refine v_arraylength0 E dJx4a65c_add_72be8_2 ?_
  refine v_icmp_ne (tgt := 11) E dJx4a65c_add_72be8_3 (by decide)  (fun c => ?_) (fun c => ?_)
  · exact absurd rfl c
  · refine v_aload_n E dJx4a65c_add_72be8_6 rfl ?_
    refine v_callV (kc := 0) (ks := 0) E dJx4a65c_add_72be8_7 k_Jx4a65c_129 Y_Jx4a65c_grow_d5877 (m_grow0 d h I J hn hT hR hI) hT rfl rfl (Nat.le_of_ble_eq_true rfl) ?_
    rintro r h' I' J' ⟨rfl, rfl, rfl, rfl⟩
    refine v_astore_n (x := h.1 + 1) E dJx4a65c_add_72be8_10 (by decide) ?_
    refine v_aload_n E dJx4a65c_add_72be8_11 rfl ?_
    refine v_iload_n E dJx4a65c_add_72be8_12 rfl ?_
    refine v_aload_n E dJx4a65c_add_72be8_13 rfl ?_
    refine v_aastore (n := 10) (j := 0) E dJx4a65c_add_72be8_14 ?_ ?_ rfl (by decide) (by decide) ?_
    · show (if h.1 + 1 = h.1 + 1 then (13, 10) else _ : Nat × Nat) = _
      rw [if_pos rfl]
    · show (if b = h.1 + 1 then _ else h.2.1 b : Nat × Nat).1 = 2
      rw [if_neg (by omega)]
      exact hb
    refine v_aload_n E dJx4a65c_add_72be8_15 rfl ?_
    refine v_iload_n E dJx4a65c_add_72be8_16 rfl ?_
    refine v_iconst (v := nI 1) E dJx4a65c_add_72be8_17 (by decide) ?_
    refine v_iaddN E dJx4a65c_add_72be8_18 ?_
    refine v_putI E f_Jx4a65c_48 dJx4a65c_add_72be8_19 hT3 rfl rfl rfl (by decide) ?_
    exact v_vret E X dJx4a65c_add_72be8_22 z_qq
theorem m_add3 (d : Nat) (h : zH) (I : zI) (J : zJ) (b n : Nat) (hT : (h.2.1 3).1 = 0) (hT42 : h.2.1 42 = (13, 10)) (hn : n < 10) (hb : (h.2.1 b).1 = 2) : z_C yJx4a65c_add_72be8 cJx4a65c_add_72be8 4 none (d + 3) [.ref 3, .ref b, .ref 42, .int (nI n)] h I J 1 10 (z_q none (h.1, h.2.1, z_u h.2.2 42 n (some b)) (z_u I 3 2 (nI (n + 1))) J) := by
  refine z_C.of (by decide) (Nat.le_of_ble_eq_true rfl) fun K E X => ?_
  refine v_iload_n E dJx4a65c_add_72be8_0 rfl ?_
  refine v_aload_n E dJx4a65c_add_72be8_1 rfl ?_
  refine v_arraylength E dJx4a65c_add_72be8_2 hT42 (by decide) (by decide) rfl ?_
  refine v_icmp_neN (tgt := 11) E dJx4a65c_add_72be8_3 (by decide) (by omega) (by omega) (fun c => ?_) (fun c => ?_)
  · refine v_aload_n E dJx4a65c_add_72be8_11 rfl ?_
    refine v_iload_n E dJx4a65c_add_72be8_12 rfl ?_
    refine v_aload_n E dJx4a65c_add_72be8_13 rfl ?_
    refine v_aastore (n := 10) (j := n) E dJx4a65c_add_72be8_14 hT42 hb rfl hn (by decide) ?_
    refine v_aload_n E dJx4a65c_add_72be8_15 rfl ?_
    refine v_iload_n E dJx4a65c_add_72be8_16 rfl ?_
    refine v_iconst (v := nI 1) E dJx4a65c_add_72be8_17 (by decide) ?_
    refine v_iaddN E dJx4a65c_add_72be8_18 ?_
    refine v_putI E f_Jx4a65c_48 dJx4a65c_add_72be8_19 hT rfl rfl rfl (by decide) ?_
    exact v_vret E X dJx4a65c_add_72be8_22 z_qq
  · exact absurd c (by omega)
theorem m_addF (d : Nat) (h : zH) (I : zI) (J : zJ) (b : Nat) (hn : 3 ≤ h.1) (hT : (h.2.1 3).1 = 0) (hR : h.2.2 3 1 = some 0) (hI : I 3 2 = nI 0) (hb : (h.2.1 b).1 = 2) (hbn : b ≤ h.1) : z_C yJx4a65c_add_9ea2d cJx4a65c_add_9ea2d 2 (some .boolean) (d + 4) [.ref 3, .ref b] h I J 1 10 (fun r h' I' J' => r = some (.int (nI 1)) ∧ h' = ((z_hG h).1, (z_hG h).2.1, z_u (z_hG h).2.2 (h.1 + 1) 0 (some b)) ∧ (I' 3 2 = nI 1 ∧ ∀ q, q ≤ h.1 → q ≠ 3 → I' q = I q) ∧ ∀ q, q ≤ h.1 → J' q = J q) := by
  refine z_C.of (by decide) (Nat.le_of_ble_eq_true rfl) fun K E X => ?_
  refine v_aload_n E dJx4a65c_add_9ea2d_0 rfl ?_
  refine v_dup E dJx4a65c_add_9ea2d_1 rfl ?_
  refine v_getI E f_Jx4a65c_63 dJx4a65c_add_9ea2d_2 hT rfl ?_
  refine v_iconst (v := nI 1) E dJx4a65c_add_9ea2d_5 (by decide) ?_
  refine v_iadd E dJx4a65c_add_9ea2d_6 ?_
  refine v_putI E f_Jx4a65c_63 dJx4a65c_add_9ea2d_7 hT rfl rfl rfl (by decide) ?_
  refine v_aload_n E dJx4a65c_add_9ea2d_10 rfl ?_
  refine v_aload_n E dJx4a65c_add_9ea2d_11 rfl ?_
  refine v_aload_n E dJx4a65c_add_9ea2d_12 rfl ?_
  refine v_getR E f_Jx4a65c_9 dJx4a65c_add_9ea2d_13 hT rfl hR ?_
  refine v_aload_n E dJx4a65c_add_9ea2d_16 rfl ?_
  refine v_getIE E f_Jx4a65c_48 dJx4a65c_add_9ea2d_17 hT rfl (show z_u I 3 0 _ 3 2 = nI 0 by rw [z_u_col (by decide)]; exact hI) ?_
  refine v_callV (kc := 0) (ks := 0) E dJx4a65c_add_9ea2d_20 k_Jx4a65c_131 Y_Jx4a65c_add_72be8 (m_add3F d h _ J b hn hT hR ?_ hb hbn) hT rfl rfl (Nat.le_of_ble_eq_true rfl) ?_
  · rw [z_u_col (by decide)]
    exact hI
  rintro r h' I' J' ⟨rfl, rfl, rfl, rfl⟩
  refine v_iconst (v := nI 1) E dJx4a65c_add_9ea2d_23 (by decide) ?_
  refine v_zret E X dJx4a65c_add_9ea2d_24 (by first | exact Or.inl rfl | exact Or.inr rfl) ⟨rfl, rfl, ⟨z_u_same, fun q hq h3 => ?_⟩, fun q hq => z_zJ_old hq⟩
  rw [z_u_row h3, z_zI_old hq, z_u_row h3]
theorem m_addN (d : Nat) (h : zH) (I : zI) (J : zJ) (b n : Nat) (hT : (h.2.1 3).1 = 0) (hR : h.2.2 3 1 = some 42) (hT42 : h.2.1 42 = (13, 10)) (hn : n < 10) (hI : I 3 2 = nI n) (hb : (h.2.1 b).1 = 2) : z_C yJx4a65c_add_9ea2d cJx4a65c_add_9ea2d 2 (some .boolean) (d + 4) [.ref 3, .ref b] h I J 1 10 (fun r h' I' J' => r = some (.int (nI 1)) ∧ h' = (h.1, h.2.1, z_u h.2.2 42 n (some b)) ∧ (I' 3 2 = nI (n + 1) ∧ ∀ q, q ≠ 3 → I' q = I q) ∧ ∀ q, J' q = J q) := by
  refine z_C.of (by decide) (Nat.le_of_ble_eq_true rfl) fun K E X => ?_
  refine v_aload_n E dJx4a65c_add_9ea2d_0 rfl ?_
  refine v_dup E dJx4a65c_add_9ea2d_1 rfl ?_
  refine v_getI E f_Jx4a65c_63 dJx4a65c_add_9ea2d_2 hT rfl ?_
  refine v_iconst (v := nI 1) E dJx4a65c_add_9ea2d_5 (by decide) ?_
  refine v_iadd E dJx4a65c_add_9ea2d_6 ?_
  refine v_putI E f_Jx4a65c_63 dJx4a65c_add_9ea2d_7 hT rfl rfl rfl (by decide) ?_
  refine v_aload_n E dJx4a65c_add_9ea2d_10 rfl ?_
  refine v_aload_n E dJx4a65c_add_9ea2d_11 rfl ?_
  refine v_aload_n E dJx4a65c_add_9ea2d_12 rfl ?_
  refine v_getR E f_Jx4a65c_9 dJx4a65c_add_9ea2d_13 hT rfl hR ?_
  refine v_aload_n E dJx4a65c_add_9ea2d_16 rfl ?_
  refine v_getIE E f_Jx4a65c_48 dJx4a65c_add_9ea2d_17 hT rfl (show z_u I 3 0 _ 3 2 = nI n by rw [z_u_col (by decide)]; exact hI) ?_
  refine v_callV (kc := 0) (ks := 0) E dJx4a65c_add_9ea2d_20 k_Jx4a65c_131 Y_Jx4a65c_add_72be8 (m_add3 d h _ J b n hT hT42 hn hb) hT rfl rfl (Nat.le_of_ble_eq_true rfl) ?_
  rintro r h' I' J' ⟨rfl, rfl, rfl, rfl⟩
  refine v_iconst (v := nI 1) E dJx4a65c_add_9ea2d_23 (by decide) ?_
  refine v_zret E X dJx4a65c_add_9ea2d_24 (by first | exact Or.inl rfl | exact Or.inr rfl) ⟨rfl, rfl, ⟨z_u_same, fun q h3 => ?_⟩, fun q => rfl⟩
  rw [z_u_row h3, z_u_row h3]
/-- a place that isn't the new listener's -/
theorem z_sT_old {nl q : Nat} (h0 : q ≠ 42 ∨ 0 < nl) (hq : ¬ (z_pl nl ≤ q ∧ q ≤ z_pl nl + 4)) : z_sT (nl + 1) q = z_sT nl q := by
  unfold z_sT
  by_cases h37 : q < 37
  · rw [if_pos h37, if_pos h37]
  · rw [if_neg h37, if_neg h37]
    by_cases h42 : q = 42
    · rw [if_pos h42, if_pos h42, if_neg (by omega), if_neg (by omega)]
    · rw [if_neg h42, if_neg h42]
      have hne : z_ln q ≠ nl := by
        intro e
        apply hq
        unfold z_ln at e
        unfold z_pl
        by_cases h : q < 42
        · rw [if_pos h] at e
          subst e
          rw [if_pos rfl]
          omega
        · rw [if_neg h] at e
          rw [if_neg (by omega)]
          omega
      by_cases hl : z_ln q < nl
      · rw [if_pos (by omega), if_pos hl]
      · rw [if_neg (by omega), if_neg hl]
theorem z_sR_old {nl q : Nat} (h42 : q ≠ 42) (h3 : q ≠ 3 ∨ 0 < nl) (hq : ¬ (z_pl nl ≤ q ∧ q ≤ z_pl nl + 4)) : z_sR (nl + 1) q = z_sR nl q := by
  unfold z_sR
  by_cases h37 : q < 37
  · rw [if_pos h37, if_pos h37]
    unfold z_r0
    rcases h3 with h3 | h3
    · split <;> first | rfl | (exact absurd rfl h3)
    · have e1 : ¬ nl = 0 := by omega
      simp only [e1, Nat.succ_ne_zero, if_false]
  · rw [if_neg h37, if_neg h37, if_neg h42, if_neg h42]
    have hne : z_ln q ≠ nl := by
      intro e
      apply hq
      unfold z_ln at e
      unfold z_pl
      by_cases h : q < 42
      · rw [if_pos h] at e
        subst e
        rw [if_pos rfl]
        omega
      · rw [if_neg h] at e
        rw [if_neg (by omega)]
        omega
    by_cases hl : z_ln q < nl
    · rw [if_pos (by omega), if_pos hl]
    · rw [if_neg (by omega), if_neg hl]
theorem z_pl_n (nl : Nat) : z_n nl + 1 = z_pl nl := by
  unfold z_n z_pl
  by_cases h : nl = 0
  · rw [if_pos h, if_pos h]
  · rw [if_neg h, if_neg h]
    omega
/-- the shape with the new listener's cells, ahead of the list's row -/
theorem z_hL_T {nl q : Nat} : (z_hL (z_new (z_s nl) 2 0) (z_pl nl)).2.1 q = if z_pl nl ≤ q ∧ q ≤ z_pl nl + 4 then z_lt (q - z_pl nl) else z_sT nl q := by
  show (if q = z_pl nl + 1 then (10, 52) else if q = z_pl nl + 2 then (1, 0) else if q = z_pl nl + 3 then (10, 10) else if q = z_pl nl + 4 then (11, 10) else if q = z_n nl + 1 then (2, 0) else z_sT nl q : Nat × Nat) = _
  rw [z_pl_n]
  by_cases e1 : q = z_pl nl + 1
  · rw [if_pos e1, if_pos (by omega), e1, show z_pl nl + 1 - z_pl nl = 1 by omega]
    rfl
  · by_cases e2 : q = z_pl nl + 2
    · rw [if_neg e1, if_pos e2, if_pos (by omega), e2, show z_pl nl + 2 - z_pl nl = 2 by omega]
      rfl
    · by_cases e3 : q = z_pl nl + 3
      · rw [if_neg e1, if_neg e2, if_pos e3, if_pos (by omega), e3, show z_pl nl + 3 - z_pl nl = 3 by omega]
        rfl
      · by_cases e4 : q = z_pl nl + 4
        · rw [if_neg e1, if_neg e2, if_neg e3, if_pos e4, if_pos (by omega), e4, show z_pl nl + 4 - z_pl nl = 4 by omega]
          rfl
        · by_cases e0 : q = z_pl nl
          · rw [if_neg e1, if_neg e2, if_neg e3, if_neg e4, if_pos e0, if_pos (by omega), e0, Nat.sub_self]
            rfl
          · rw [if_neg e1, if_neg e2, if_neg e3, if_neg e4, if_neg e0, if_neg (by omega)]
theorem z_hL_R {nl q : Nat} : (z_hL (z_new (z_s nl) 2 0) (z_pl nl)).2.2 q = if z_pl nl ≤ q ∧ q ≤ z_pl nl + 4 then z_lr (q - z_pl nl) q else z_sR nl q := by
  show (if q = z_pl nl then z_lr 0 (z_pl nl) else if q = z_pl nl + 2 then z_lr 2 (z_pl nl + 2) else if q = z_pl nl + 1 ∨ q = z_pl nl + 3 ∨ q = z_pl nl + 4 then (fun _ => none) else if q = z_n nl + 1 then (fun _ => none) else z_sR nl q : Nat → Option Nat) = _
  rw [z_pl_n]
  by_cases e0 : q = z_pl nl
  · rw [if_pos e0, if_pos (by omega), e0, Nat.sub_self]
  · by_cases e2 : q = z_pl nl + 2
    · rw [if_neg e0, if_pos e2, if_pos (by omega), e2, show z_pl nl + 2 - z_pl nl = 2 by omega]
    · by_cases e3 : q = z_pl nl + 1 ∨ q = z_pl nl + 3 ∨ q = z_pl nl + 4
      · rw [if_neg e0, if_neg e2, if_pos e3, if_pos (by omega)]
        rcases e3 with e3 | e3 | e3
        · rw [e3, show z_pl nl + 1 - z_pl nl = 1 by omega]
          rfl
        · rw [e3, show z_pl nl + 3 - z_pl nl = 3 by omega]
          rfl
        · rw [e3, show z_pl nl + 4 - z_pl nl = 4 by omega]
          rfl
      · rw [if_neg e0, if_neg e2, if_neg e3, if_neg e0, if_neg (by omega)]
theorem z_s_T {nl q : Nat} : z_sT (nl + 1) q = if z_pl nl ≤ q ∧ q ≤ z_pl nl + 4 then z_lt (q - z_pl nl) else z_sT (nl + 1) q := by
  by_cases h : z_pl nl ≤ q ∧ q ≤ z_pl nl + 4
  · rw [if_pos h]
    have := z_sT_l (nl := nl + 1) (l := nl) (j := q - z_pl nl) (by omega) (by omega)
    rw [show z_pl nl + (q - z_pl nl) = q by omega] at this
    exact this
  · rw [if_neg h]
theorem z_s_R {nl q : Nat} : z_sR (nl + 1) q = if z_pl nl ≤ q ∧ q ≤ z_pl nl + 4 then z_lr (q - z_pl nl) q else z_sR (nl + 1) q := by
  by_cases h : z_pl nl ≤ q ∧ q ≤ z_pl nl + 4
  · rw [if_pos h]
    have := z_sR_l (nl := nl + 1) (l := nl) (j := q - z_pl nl) (by omega) (by omega)
    rw [show z_pl nl + (q - z_pl nl) = q by omega] at this
    exact this
  · rw [if_neg h]
/-- the shape behind a listener more -/
theorem z_s_next {nl : Nat} (h0 : 0 < nl) (h : zH) (e : h = z_hL (z_new (z_s nl) 2 0) (z_pl nl)) : (h.1, h.2.1, z_u h.2.2 42 nl (some (z_pl nl))) = z_s (nl + 1) := by
  have hpl : z_pl nl = 38 + 5 * nl := by unfold z_pl; rw [if_neg (by omega)]
  subst e
  refine Prod.ext ?_ (Prod.ext ?_ ?_)
  · show z_pl nl + 4 = z_n (nl + 1)
    unfold z_n
    rw [if_neg (by omega), hpl]
    omega
  · funext q
    show (z_hL (z_new (z_s nl) 2 0) (z_pl nl)).2.1 q = z_sT (nl + 1) q
    rw [z_hL_T, z_s_T]
    by_cases hq : z_pl nl ≤ q ∧ q ≤ z_pl nl + 4
    · rw [if_pos hq, if_pos hq]
    · rw [if_neg hq, if_neg hq, z_sT_old (Or.inr h0) hq]
  · funext q
    show z_u (z_hL (z_new (z_s nl) 2 0) (z_pl nl)).2.2 42 nl (some (z_pl nl)) q = z_sR (nl + 1) q
    by_cases h42 : q = 42
    · subst h42
      funext k
      have e1 : z_sR (nl + 1) 42 = fun k => if k < nl + 1 then some (z_pl k) else none := by
        show (if nl + 1 = 0 then (fun _ => none) else fun k => if k < nl + 1 then some (z_pl k) else none : Nat → Option Nat) = _
        rw [if_neg (by omega)]
      have e2 : z_sR nl 42 = fun k => if k < nl then some (z_pl k) else none := by
        show (if nl = 0 then (fun _ => none) else fun k => if k < nl then some (z_pl k) else none : Nat → Option Nat) = _
        rw [if_neg (by omega)]
      rw [e1]
      by_cases ek : k = nl
      · rw [ek, z_u_same]
        show _ = (if nl < nl + 1 then some (z_pl nl) else none)
        rw [if_pos (by omega)]
      · rw [z_u_col ek, z_hL_R, if_neg (by omega), e2]
        show (if k < nl then _ else _ : Option Nat) = if k < nl + 1 then _ else _
        by_cases hk : k < nl
        · rw [if_pos hk, if_pos (by omega)]
        · rw [if_neg hk, if_neg (by omega)]
    · rw [z_u_row h42, z_hL_R, z_s_R]
      by_cases hq : z_pl nl ≤ q ∧ q ≤ z_pl nl + 4
      · rw [if_pos hq, if_pos hq]
      · rw [if_neg hq, if_neg hq, z_sR_old h42 (Or.inr h0) hq]
theorem z_s_first (h : zH) (e : h = z_hL (z_new (z_s 0) 2 0) (z_pl 0)) : ((z_hG h).1, (z_hG h).2.1, z_u (z_hG h).2.2 (h.1 + 1) 0 (some (z_pl 0))) = z_s 1 := by
  subst e
  refine Prod.ext rfl (Prod.ext ?_ ?_)
  · funext q
    show (if q = 42 then (13, 10) else (z_hL (z_new (z_s 0) 2 0) (z_pl 0)).2.1 q : Nat × Nat) = z_sT 1 q
    by_cases h42 : q = 42
    · rw [if_pos h42, h42]
      rfl
    · rw [if_neg h42, z_hL_T, z_s_T (nl := 0)]
      by_cases hq : z_pl 0 ≤ q ∧ q ≤ z_pl 0 + 4
      · rw [if_pos hq, if_pos hq]
      · rw [if_neg hq, if_neg hq, z_sT_old (Or.inl h42) hq]
  · funext q
    show z_u (z_u (fun a => if a = 42 then (fun _ => none) else (z_hL (z_new (z_s 0) 2 0) (z_pl 0)).2.2 a) 3 1 (some 42)) 42 0 (some (z_pl 0)) q = z_sR 1 q
    by_cases h42 : q = 42
    · subst h42
      funext k
      by_cases ek : k = 0
      · rw [ek, z_u_same]
        rfl
      · rw [z_u_col ek, z_u_row (by decide)]
        show none = (if k < 1 then some (z_pl k) else none)
        rw [if_neg (by omega)]
    · rw [z_u_row h42]
      by_cases h3 : q = 3
      · subst h3
        funext k
        by_cases ek : k = 1
        · rw [ek, z_u_same]
          rfl
        · rw [z_u_col ek]
          show (if 3 = 42 then (fun _ => none) else (z_hL (z_new (z_s 0) 2 0) (z_pl 0)).2.2 3 : Nat → Option Nat) k = _
          rw [if_neg (by decide), z_hL_R, if_neg (by decide)]
          match k, ek with
          | 0, _ => rfl
          | k + 2, _ => rfl
      · rw [z_u_row h3]
        show (if q = 42 then (fun _ => none) else (z_hL (z_new (z_s 0) 2 0) (z_pl 0)).2.2 q : Nat → Option Nat) = _
        rw [if_neg h42, z_hL_R, z_s_R (nl := 0)]
        by_cases hq : z_pl 0 ≤ q ∧ q ≤ z_pl 0 + 4
        · rw [if_pos hq, if_pos hq]
        · rw [if_neg hq, if_neg hq, z_sR_old h42 (Or.inl h3) hq]
/-- the class's cells with a listener more -/
theorem cI_more {s : zS} (hw : s_wf s) {I I' : zI} {J J' : zJ} {k : Nat} (hc : cI s I J) (h3 : I' 3 2 = nI (s_nl s + 1)) (hI : ∀ q, q < z_pl (s_nl s) → q ≠ 3 → q ≠ 42 → I' q = I q ∧ J' q = J q) (hL : lsI I' J' (z_pl (s_nl s)) k [] 0 0 0 0 false) : cI (t_listener s k) I' J' := by
  obtain ⟨c1, c2, c3, c4, c5, c6, c7, c8⟩ := hc
  have w9 := hw.2.2.2.2.2.2.2.2.1 (s_nl s) (Nat.le_refl _)
  have w8 := hw.2.2.2.2.2.2.2.1
  have h37 := z_pl_37 (s_nl s)
  have fr : ∀ q, q < 37 → q ≠ 3 → I' q = I q ∧ J' q = J q := fun q h1 h2 => hI q (by omega) h2 (by omega)
  refine ⟨?_, ?_, h3, ?_, ?_, ?_, ?_, ?_⟩
  · rw [(fr 1 (by decide) (by decide)).1]; exact c1
  · rw [(fr 1 (by decide) (by decide)).1]; exact c2
  · intro p hp; rw [(fr 2 (by decide) (by decide)).2]; exact c4 p hp
  · intro c hc; rw [(fr 4 (by decide) (by decide)).1]; exact c5 c hc
  · intro c hc; rw [(fr 5 (by decide) (by decide)).1]; exact c6 c hc
  · intro c hc; rw [(fr 6 (by decide) (by decide)).1]; exact c7 c hc
  · intro l hl
    have hl : l < s_nl s + 1 := hl
    by_cases e : l = s_nl s
    · have hkd : s_kd (t_listener s k) l = k := by show va_up (s_kd s) (s_nl s) k l = k; rw [e, u_up_same]
      have hb : s_base s l = [] := by
        unfold s_base
        rw [e, w9.2.1]
        rfl
      have hnb : ∀ c, c ≤ s_nc s → s_rowsAt s l c = [] ∧ q_hc (s_hb s) l c = 0 := by
        intro c
        induction c with
        | zero => intro _; exact ⟨hb, rfl⟩
        | succ c ih =>
          intro hcc
          have h1 := ih (by omega)
          have h2 : (s_hb s c).testBit l = false := q_hi (w8 c (by omega)).2.2 (by omega)
          refine ⟨?_, ?_⟩
          · show r_call (s_cm s) (s_hb s) l (s_base s l) (c + 1) = []
            simp only [r_call, h2]
            exact h1.1
          · simp only [q_hc, h2]
            exact h1.2
      have hr : s_rows (t_listener s k) l = [] := (hnb (s_nc s) (Nat.le_refl _)).1
      have hh : s_hc (t_listener s k) l = 0 := (hnb (s_nc s) (Nat.le_refl _)).2
      have hm : s_hm (t_listener s k) l = 0 := by show s_hm s l = 0; rw [e]; exact w9.2.1
      have hp : s_hp (t_listener s k) l = 0 := by
        show q_hp (s_hs s l) (s_hm s l) = 0
        rw [e, w9.2.1]
        rfl
      have hwt : s_wt (t_listener s k) l = 0 := by show s_wt s l = 0; rw [e]; exact w9.1
      have hof : s_of (t_listener s k) l = false := by show s_of s l = false; rw [e]; exact w9.2.2
      rw [hkd, hr, hh, hm, hp, hwt, hof, e]
      exact hL
    · have hkd : s_kd (t_listener s k) l = s_kd s l := u_up_ne e
      rw [hkd]
      have hne := z_pl_ne (show l ≠ s_nl s from e)
      have hlt : z_pl l + 4 < z_pl (s_nl s) := by
        unfold z_pl at hne ⊢
        split at hne <;> split at hne <;> simp_all <;> omega
      have h42 : ¬ (z_pl l ≤ 42 ∧ 42 ≤ z_pl l + 4) := by
        unfold z_pl
        split <;> omega
      have hl37 := z_pl_37 l
      exact lsI_kept (c8 l (by omega)) (fun q q1 q2 => hI q (by omega) (by omega) (by omega))
theorem m_listener (d : Nat) (s : zS) (hw : s_wf s) (I : zI) (J : zJ) (hc : cI s I J) (x : Int32) : z_C yX3_listener cX3_listener 2 (some .int) (d + 5) [.ref 1, .int x] (z_s (s_nl s)) I J 6 94 (cQ (a_listener s x) I J) := by
  have w2 := hw.2.1
  have c3 := hc.2.2.1
  refine z_C.of (by decide) (Nat.le_of_ble_eq_true rfl) fun K E X => ?_
  have no : z_isx x 5 = false → z_V K 9 [(0, .ref 1), (1, .int x)] [] (z_s (s_nl s)) I J 6 94 := by
    intro e
    refine v_bipush (v := -2) E dX3_listener_9 (by decide) ?_
    exact v_iret E X dX3_listener_11 (cQ.same (by unfold a_listener; rw [e]; rfl) hc)
  refine v_iload_n E dX3_listener_0 rfl ?_
  refine v_if_lt (tgt := 9) E dX3_listener_1 (by decide)  (fun k1 => ?_) (fun k1 => ?_)
  · exact no (decide_eq_false (fun z => z.1 k1))
  · refine v_iload_n E dX3_listener_4 rfl ?_
    refine v_iconst (v := nI 4) E dX3_listener_5 (by decide) ?_
    refine v_icmp_le (tgt := 12) E dX3_listener_6 (by decide)  (fun k2 => ?_) (fun k2 => ?_)
    · have e : z_isx x 5 = true := decide_eq_true ⟨k1, by
        have h1 := Int32.le_iff_toInt_le.mp k2
        rw [Int32.lt_iff_toInt_lt]
        rw [nI_toInt (by decide)] at h1 ⊢
        omega⟩
      have e9 := e
      obtain ⟨kd, hkd, rfl⟩ := z_isx_true (by decide) e
      refine v_aload_n E dX3_listener_12 rfl ?_
      refine v_getR E f_X3_16 dX3_listener_13 rfl rfl rfl ?_
      refine v_callV1 E dX3_listener_16 k_X3_58 Y_Jx4a65c_size_8abf5 (m_size (d + 4) (s_nl s) I J c3) rfl rfl rfl (Nat.le_of_ble_eq_true rfl) ?_
      refine v_bipush (v := nI 10) E dX3_listener_19 (by decide) ?_
      refine v_icmp_ltN (tgt := 27) E dX3_listener_21 (by decide) (by omega) (by omega) (fun k3 => ?_) (fun k3 => ?_)
      · have ea : a_listener s (nI kd) = (nI (s_nl s), t_listener s kd) := by
          unfold a_listener
          rw [e9, if_pos rfl, if_neg (by omega), nI_clamp (by omega)]
        rw [ea] at X
        refine v_aload_n E dX3_listener_27 rfl ?_
        refine v_getR E f_X3_16 dX3_listener_28 rfl rfl rfl ?_
        refine v_new (kc := 5) (ks := 85) E dX3_listener_31 (by decide) c_X3_62 i_n2 i_i2 i_t2 ?_
        refine v_dup E dX3_listener_34 rfl ?_
        refine v_iload_n E dX3_listener_35 rfl ?_
        have hpl : (z_s (s_nl s)).1 + 1 = z_pl (s_nl s) := z_pl_n (s_nl s)
        refine v_callI (kc := 1) (ks := 10) E dX3_listener_36 k_X3_64 Y_X1_init (m_Linit (d + 2) (z_new (z_s (s_nl s)) 2 0) (z_zI (z_s (s_nl s)) I) (z_zJ (z_s (s_nl s)) J) ((z_s (s_nl s)).1 + 1) rfl ?_ ?_ z_w_same z_w_same kd) rfl rfl (Nat.le_of_ble_eq_true rfl) ?_
        · show (if (z_s (s_nl s)).1 + 1 = (z_s (s_nl s)).1 + 1 then (2, 0) else _ : Nat × Nat).1 = 2
          rw [if_pos rfl]
        · show (if (z_s (s_nl s)).1 + 1 = (z_s (s_nl s)).1 + 1 then (fun _ => none) else _ : Nat → Option Nat) = _
          rw [if_pos rfl]
        rw [hpl]
        rintro r h' I1 J1 ⟨rfl, hh1, g1, g2⟩
        have h37 := z_pl_37 (s_nl s)
        have old1 : ∀ q, q < z_pl (s_nl s) → I1 q = I q ∧ J1 q = J q := by
          intro q hq
          have hq2 : q ≤ (z_s (s_nl s)).1 := by omega
          refine ⟨?_, ?_⟩
          · rw [(g2 q hq).1, z_zI_old hq2]
          · rw [(g2 q hq).2, z_zJ_old hq2]
        have i32 : I1 3 2 = nI (s_nl s) := by rw [(old1 3 (by omega)).1]; exact c3
        have tl : (h'.2.1 (z_pl (s_nl s))).1 = 2 := by
          rw [hh1, z_hL_T, if_pos (by omega), Nat.sub_self]
          rfl
        have hn1 : h'.1 = z_pl (s_nl s) + 4 := by rw [hh1]; rfl
        have t3 : (h'.2.1 3).1 = 0 := by
          rw [hh1, z_hL_T, if_neg (by omega)]
          rfl
        by_cases h0 : s_nl s = 0
        · have r3 : h'.2.2 3 1 = some 0 := by
            rw [hh1, z_hL_R, if_neg (by omega), h0]
            rfl
          refine v_callV (kc := 0) (ks := 0) E dX3_listener_39 k_X3_67 Y_Jx4a65c_add_9ea2d (m_addF d h' I1 J1 (z_pl (s_nl s)) (by omega) t3 r3 (by rw [i32, h0]) tl (by omega)) t3 rfl rfl (Nat.le_of_ble_eq_true rfl) ?_
          rintro r h2 I2 J2 ⟨rfl, hh2, ⟨g3, g4⟩, g5⟩
          have hs : h2 = z_s (s_nl s + 1) := by
            rw [hh2, h0]
            rw [h0] at hh1
            exact z_s_first h' hh1
          subst hs
          refine v_pop E dX3_listener_42 rfl ?_
          refine v_aload_n E dX3_listener_43 rfl ?_
          refine v_getR E f_X3_16 dX3_listener_44 rfl rfl rfl ?_
          refine v_callV1 E dX3_listener_47 k_X3_58 Y_Jx4a65c_size_8abf5 (m_size (d + 4) (s_nl s + 1) I2 J2 (by rw [g3, h0])) rfl rfl rfl (Nat.le_of_ble_eq_true rfl) ?_
          refine v_iconst (v := nI 1) E dX3_listener_50 (by decide) ?_
          refine v_isubN E dX3_listener_51 (by omega) ?_
          have low : ∀ q, q < z_pl (s_nl s) → q ≠ 3 → I2 q = I q ∧ J2 q = J q := by
            intro q hq h3
            refine ⟨?_, ?_⟩
            · rw [g4 q (by omega) h3, (old1 q hq).1]
            · rw [g5 q (by omega), (old1 q hq).2]
          exact v_iret E X dX3_listener_52 ⟨rfl, rfl, cI_more hw hc (by rw [g3, h0]) (fun q h1 h2 h3 => low q h1 h2) (lsI_kept g1 (fun q q1 q2 => ⟨g4 q (by omega) (by omega), g5 q (by omega)⟩)), fun q q1 q2 => low q (by omega) (by omega)⟩
        · have hgt : 42 < z_pl (s_nl s) := by unfold z_pl; rw [if_neg h0]; omega
          have r3 : h'.2.2 3 1 = some 42 := by
            rw [hh1, z_hL_R, if_neg (by omega)]
            show (if s_nl s = 0 then some 0 else some 42) = _
            rw [if_neg h0]
          have t42 : h'.2.1 42 = (13, 10) := by
            rw [hh1, z_hL_T, if_neg (by omega)]
            show (if s_nl s = 0 then (99, 0) else (13, 10) : Nat × Nat) = _
            rw [if_neg h0]
          refine v_callV (kc := 0) (ks := 0) E dX3_listener_39 k_X3_67 Y_Jx4a65c_add_9ea2d (m_addN d h' I1 J1 (z_pl (s_nl s)) (s_nl s) t3 r3 t42 (by omega) i32 tl) t3 rfl rfl (Nat.le_of_ble_eq_true rfl) ?_
          rintro r h2 I2 J2 ⟨rfl, hh2, ⟨g3, g4⟩, g5⟩
          have hs : h2 = z_s (s_nl s + 1) := by
            rw [hh2]
            exact z_s_next (by omega) h' hh1
          subst hs
          refine v_pop E dX3_listener_42 rfl ?_
          refine v_aload_n E dX3_listener_43 rfl ?_
          refine v_getR E f_X3_16 dX3_listener_44 rfl rfl rfl ?_
          refine v_callV1 E dX3_listener_47 k_X3_58 Y_Jx4a65c_size_8abf5 (m_size (d + 4) (s_nl s + 1) I2 J2 g3) rfl rfl rfl (Nat.le_of_ble_eq_true rfl) ?_
          refine v_iconst (v := nI 1) E dX3_listener_50 (by decide) ?_
          refine v_isubN E dX3_listener_51 (by omega) ?_
          have low : ∀ q, q < z_pl (s_nl s) → q ≠ 3 → I2 q = I q ∧ J2 q = J q := by
            intro q hq h3
            refine ⟨?_, ?_⟩
            · rw [g4 q h3, (old1 q hq).1]
            · rw [g5 q, (old1 q hq).2]
          exact v_iret E X dX3_listener_52 ⟨rfl, rfl, cI_more hw hc g3 (fun q h1 h2 h3 => low q h1 h2) (lsI_kept g1 (fun q q1 q2 => ⟨g4 q (by omega), g5 q⟩)), fun q q1 q2 => low q (by omega) (by omega)⟩
      · refine v_bipush (v := -4) E dX3_listener_24 (by decide) ?_
        exact v_iret E X dX3_listener_26 (cQ.same (by unfold a_listener; rw [e9, if_pos rfl, if_pos (by omega)]) hc)
    · refine no (decide_eq_false (fun z => ?_))
      have h1 := Int32.lt_iff_toInt_lt.mp z.2
      apply k2
      rw [Int32.le_iff_toInt_le]
      rw [nI_toInt (by decide)] at h1 ⊢
      omega
