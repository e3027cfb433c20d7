/-! MAKING: Knowledge, Listener, the list's add, OneCall.listener -/
/-- the shape behind Knowledge's constructor at a = h.1 -/
def z_hK (h : zH) (a : Nat) : zH := (a + 2, fun q => if q = a + 2 then (11, 10) else if q = a + 1 then (10, 10) else h.2.1 q, fun q => if q = a then z_lr 2 a else if q = a + 1 ∨ q = a + 2 then (fun _ => none) else h.2.2 q)
theorem z_zI_old {h : zH} {I : zI} {q : Nat} (hq : q ≤ h.1) : z_zI h I q = I q := z_w_row (by omega)
theorem z_zJ_old {h : zH} {J : zJ} {q : Nat} (hq : q ≤ h.1) : z_zJ h J q = J q := z_w_row (by omega)
theorem z_zJ_new {h : zH} {J : zJ} {q : Nat} (hq : q = h.1 + 1) : z_zJ h J q = fun _ => 0 := by rw [hq]; exact z_w_same
theorem z_zI_new {h : zH} {I : zI} {q : Nat} (hq : q = h.1 + 1) : z_zI h I q = fun _ => 0 := by rw [hq]; exact z_w_same
theorem m_Kinit (d : Nat) (h : zH) (I : zI) (J : zJ) (a : Nat) (hn : h.1 = a) (hT : (h.2.1 a).1 = 1) (hR : h.2.2 a = fun _ => none) : z_C yX0_init cX0_init 2 none (d + 1) [.ref a] h I J 2 20 (fun r h' I' J' => r = none ∧ h' = z_hK h a ∧ (∀ p, p < 10 → I' (a + 1) p = nI (2 ^ p)) ∧ (∀ q, q ≤ a → I' q = I q ∧ J' q = J q) ∧ ∀ p, J' (a + 2) p = lN 0) := by
  subst hn
  refine z_C.of (by decide) (Nat.le_of_ble_eq_true rfl) fun K E X => ?_
  refine v_aload_n E dX0_init_0 rfl ?_
  refine v_objInit E dX0_init_1 k_X0_3 (Nat.le_of_ble_eq_true rfl) ?_
  refine v_aload_n E dX0_init_4 rfl ?_
  refine v_bipush (v := nI 10) E dX0_init_5 (by decide) ?_
  refine v_newI (kc := 1) (ks := 10) (N := 10) E dX0_init_7 rfl (by decide) ?_
  have t1 : ((z_new h 10 10).2.1 h.1).1 = 1 := by
    show (if h.1 = h.1 + 1 then _ else _ : Nat × Nat).1 = 1
    rw [if_neg (by omega)]
    exact hT
  refine v_putR E f_X0_9 dX0_init_9 t1 rfl (fun _ => rfl) (fun _ => rfl) (by decide) ?_
  refine v_aload_n E dX0_init_12 rfl ?_
  refine v_bipush (v := nI 10) E dX0_init_13 (by decide) ?_
  refine v_newJ (kc := 0) (ks := 0) (N := 10) E dX0_init_15 rfl (by decide) ?_
  refine v_putR E f_X0_15 dX0_init_17 ?_ rfl (fun _ => rfl) (fun _ => rfl) (by decide) ?_
  · show (if h.1 = h.1 + 1 + 1 then _ else if h.1 = h.1 + 1 then _ else _ : Nat × Nat).1 = 1
    rw [if_neg (by omega), if_neg (by omega)]
    exact hT
  refine v_st (h2 := z_hK h h.1) ?_ rfl rfl ?_
  · refine Prod.ext rfl (Prod.ext ?_ ?_)
    · funext q
      show (if q = h.1 + 1 + 1 then _ else if q = h.1 + 1 then _ else _ : Nat × Nat) = _
      rfl
    · funext q
      show z_u (fun b => if b = h.1 + 1 + 1 then (fun _ => none) else z_u (fun c => if c = h.1 + 1 then (fun _ => none) else h.2.2 c) h.1 0 (some (h.1 + 1)) b) h.1 1 (some (h.1 + 1 + 1)) q = (if q = h.1 then z_lr 2 h.1 else if q = h.1 + 1 ∨ q = h.1 + 2 then (fun _ => none) else h.2.2 q)
      by_cases e : q = h.1
      · rw [if_pos e, e]
        funext k
        by_cases e1 : k = 1
        · rw [e1, z_u_same]
          rfl
        · rw [z_u_col e1]
          show (if h.1 = h.1 + 1 + 1 then (fun _ => none) else _ : Nat → Option Nat) k = _
          rw [if_neg (by omega)]
          by_cases e0 : k = 0
          · rw [e0, z_u_same]
            rfl
          · rw [z_u_col e0]
            show (if h.1 = h.1 + 1 then (fun _ => none) else h.2.2 h.1 : Nat → Option Nat) k = _
            rw [if_neg (by omega), hR]
            match k, e0, e1 with
            | k + 2, _, _ => rfl
      · rw [if_neg e, z_u_row e]
        show (if q = h.1 + 1 + 1 then (fun _ => none) else _ : Nat → Option Nat) = _
        by_cases e2 : q = h.1 + 1 + 1
        · rw [if_pos e2, if_pos (Or.inr e2)]
        · rw [if_neg e2, z_u_row e]
          show (if q = h.1 + 1 then (fun _ => none) else h.2.2 q : Nat → Option Nat) = _
          by_cases e1 : q = h.1 + 1
          · rw [if_pos e1, if_pos (Or.inl e1)]
          · rw [if_neg e1, if_neg (by omega)]
  have kn0 : ((z_hK h h.1).2.1 h.1).1 = 1 := by
    show (if h.1 = h.1 + 2 then _ else if h.1 = h.1 + 1 then _ else _ : Nat × Nat).1 = 1
    rw [if_neg (by omega), if_neg (by omega)]
    exact hT
  have kn1 : (z_hK h h.1).2.1 (h.1 + 1) = (10, 10) := by
    show (if h.1 + 1 = h.1 + 2 then _ else if h.1 + 1 = h.1 + 1 then _ else _ : Nat × Nat) = _
    rw [if_neg (by omega), if_pos rfl]
  have kn3 : (z_hK h h.1).2.2 h.1 0 = some (h.1 + 1) := by
    show (if h.1 = h.1 then z_lr 2 h.1 else _ : Nat → Option Nat) 0 = _
    rw [if_pos rfl]
    rfl
  refine v_iconst (v := nI 0) E dX0_init_20 (by decide) ?_
  refine v_istore_n E dX0_init_21 (by decide) ?_
  have fin : ∀ k, k ≤ 10 → ∀ I' : zI, (∀ p, p < k → I' (h.1 + 1) p = nI (2 ^ p)) → (∀ q, q ≤ h.1 → I' q = I q) → z_V K 22 [(0, .ref h.1), (1, .int (nI k))] [] (z_hK h h.1) I' (z_zJ (h.1 + 1, (z_new h 10 10).2.1, z_u (z_new h 10 10).2.2 h.1 0 (some (h.1 + 1))) (z_zJ h J)) 0 0 := by
    refine z_for 10 ?_ (fun k hk ih => ?_)
    · intro I' h1 h2
      refine v_iload_n E dX0_init_22 rfl ?_
      refine v_bipush (v := nI 10) E dX0_init_23 (by decide) ?_
      refine v_icmp_geN (tgt := 43) E dX0_init_25 (by decide) (by omega) (by omega) (fun c => ?_) (fun c => ?_)
      · refine v_vret E X dX0_init_43 ⟨rfl, rfl, h1, fun q hq => ⟨h2 q hq, ?_⟩, fun p => ?_⟩
        · rw [z_zJ_old (by show q ≤ h.1 + 1; omega), z_zJ_old hq]
        · rw [z_zJ_new (h := (h.1 + 1, (z_new h 10 10).2.1, z_u (z_new h 10 10).2.2 h.1 0 (some (h.1 + 1)))) (q := h.1 + 2) rfl]
          rfl
      · exact absurd c (by omega)
    · intro I' h1 h2
      refine v_iload_n E dX0_init_22 rfl ?_
      refine v_bipush (v := nI 10) E dX0_init_23 (by decide) ?_
      refine v_icmp_geN (tgt := 43) E dX0_init_25 (by decide) (by omega) (by omega) (fun c => ?_) (fun c => ?_)
      · exact absurd c (by omega)
      · refine v_aload_n E dX0_init_28 rfl ?_
        refine v_getR E f_X0_9 dX0_init_29 kn0 rfl kn3 ?_
        refine v_iload_n E dX0_init_32 rfl ?_
        refine v_iconst (v := nI 1) E dX0_init_33 (by decide) ?_
        refine v_iload_n E dX0_init_34 rfl ?_
        refine v_ishlN E dX0_init_35 (by omega) ?_
        refine v_iastore E dX0_init_36 kn1 rfl hk (by decide) ?_
        refine v_inc E dX0_init_37 rfl (by decide) ?_
        refine v_goto (tgt := 22) E dX0_init_40 (by decide) ?_
        refine ih _ (fun p hp => ?_) (fun q hq => ?_)
        · by_cases e : p = k
          · subst e
            rw [z_u_same, Nat.one_mul]
          · rw [z_u_col e]
            exact h1 p (by omega)
        · rw [z_u_row (by omega)]
          exact h2 q hq
  refine fin 0 (by omega) _ (fun p hp => absurd hp (by omega)) (fun q hq => ?_)
  rw [z_zI_old (by show q ≤ h.1 + 1; omega), z_zI_old hq]
/-- the shape behind Listener's constructor at a = h.1 -/
def z_hL (h : zH) (a : Nat) : zH := (a + 4, fun q => if q = a + 1 then (10, 52) else if q = a + 2 then (1, 0) else if q = a + 3 then (10, 10) else if q = a + 4 then (11, 10) else h.2.1 q, fun q => if q = a then z_lr 0 a else if q = a + 2 then z_lr 2 (a + 2) else if q = a + 1 ∨ q = a + 3 ∨ q = a + 4 then (fun _ => none) else h.2.2 q)
theorem m_Linit (d : Nat) (h : zH) (I : zI) (J : zJ) (a : Nat) (hn : h.1 = a) (hT : (h.2.1 a).1 = 2) (hR : h.2.2 a = fun _ => none) (hI : I a = fun _ => 0) (hJ : J a = fun _ => 0) (kd : Nat) : z_C yX1_init cX1_init 2 none (d + 2) [.ref a, .int (nI kd)] h I J 4 75 (fun r h' I' J' => r = none ∧ h' = z_hL h a ∧ lsI I' J' a kd [] 0 0 0 0 false ∧ ∀ q, q < a → I' q = I q ∧ J' q = J q) := by
  subst hn
  refine z_C.of (by decide) (Nat.le_of_ble_eq_true rfl) fun K E X => ?_
  refine v_aload_n E dX1_init_0 rfl ?_
  refine v_objInit E dX1_init_1 k_X1_3 (Nat.le_of_ble_eq_true rfl) ?_
  refine v_aload_n E dX1_init_4 rfl ?_
  refine v_iload_n E dX1_init_5 rfl ?_
  refine v_putI E f_X1_9 dX1_init_6 hT rfl rfl rfl (by decide) ?_
  refine v_aload_n E dX1_init_9 rfl ?_
  refine v_bipush (v := nI 52) E dX1_init_10 (by decide) ?_
  refine v_newI (kc := 3) (ks := 23) (N := 52) E dX1_init_12 rfl (by decide) ?_
  have t1 : ((z_new h 10 52).2.1 h.1).1 = 2 := by
    show (if h.1 = h.1 + 1 then _ else _ : Nat × Nat).1 = 2
    rw [if_neg (by omega)]
    exact hT
  refine v_putR E f_X1_15 dX1_init_14 t1 rfl (fun _ => rfl) (fun _ => rfl) (by decide) ?_
  refine v_aload_n E dX1_init_17 rfl ?_
  refine v_new (kc := 2) (ks := 20) E dX1_init_18 (by decide) c_X1_19 i_n1 i_i1 i_t1 ?_
  refine v_dup E dX1_init_21 rfl ?_
  refine v_callI (kc := 0) (ks := 0) E dX1_init_22 k_X1_21 Y_X0_init (m_Kinit d _ _ _ (h.1 + 2) rfl ?_ ?_) rfl rfl (Nat.le_of_ble_eq_true rfl) ?_
  · show (if h.1 + 2 = h.1 + 1 + 1 then (1, 0) else _ : Nat × Nat).1 = 1
    rw [if_pos rfl]
  · show (if h.1 + 2 = h.1 + 1 + 1 then (fun _ => none) else _ : Nat → Option Nat) = _
    rw [if_pos rfl]
  rintro r h' I' J' ⟨rfl, rfl, g1, g2, g3⟩
  refine v_putR E f_X1_22 dX1_init_25 ?_ rfl (fun _ => rfl) (fun _ => rfl) (by decide) ?_
  · show (if h.1 = h.1 + 2 + 2 then _ else if h.1 = h.1 + 2 + 1 then _ else if h.1 = h.1 + 1 + 1 then _ else if h.1 = h.1 + 1 then _ else _ : Nat × Nat).1 = 2
    rw [if_neg (by omega), if_neg (by omega), if_neg (by omega), if_neg (by omega)]
    exact hT
  have old : ∀ q, q ≤ h.1 → I' q = z_u I h.1 0 (nI kd) q ∧ J' q = J q := by
    intro q hq
    refine ⟨?_, ?_⟩
    · rw [(g2 q (by omega)).1, z_zI_old (by show q ≤ h.1 + 1; omega), z_zI_old hq]
    · rw [(g2 q (by omega)).2, z_zJ_old (by show q ≤ h.1 + 1; omega), z_zJ_old hq]
  have i2 : I' (h.1 + 2) 2 = 0 := by
    have e9 := z_zI_new (h := ((z_new h 10 52).1, (z_new h 10 52).2.1, z_u (z_new h 10 52).2.2 h.1 1 (some (h.1 + 1)))) (I := z_zI h (z_u I h.1 0 (nI kd))) (q := h.1 + 2) rfl
    rw [(g2 (h.1 + 2) (Nat.le_refl _)).1, e9]
  refine v_vret E X dX1_init_28 ⟨rfl, ?_, ?_, fun q hq => ⟨by rw [(old q (by omega)).1, z_u_row (by omega)], (old q (by omega)).2⟩⟩
  · refine Prod.ext rfl (Prod.ext ?_ ?_)
    · funext q
      show (if q = h.1 + 2 + 2 then (11, 10) else if q = h.1 + 2 + 1 then (10, 10) else if q = h.1 + 1 + 1 then (1, 0) else if q = h.1 + 1 then (10, 52) else h.2.1 q : Nat × Nat) = (if q = h.1 + 1 then (10, 52) else if q = h.1 + 2 then (1, 0) else if q = h.1 + 3 then (10, 10) else if q = h.1 + 4 then (11, 10) else h.2.1 q)
      by_cases e1 : q = h.1 + 1
      · rw [if_neg (by omega), if_neg (by omega), if_neg (by omega), if_pos e1, if_pos e1]
      · by_cases e2 : q = h.1 + 2
        · rw [if_neg (by omega), if_neg (by omega), if_pos e2, if_neg e1, if_pos e2]
        · by_cases e3 : q = h.1 + 3
          · rw [if_neg (by omega), if_pos e3, if_neg e1, if_neg e2, if_pos e3]
          · by_cases e4 : q = h.1 + 4
            · rw [if_pos e4, if_neg e1, if_neg e2, if_neg e3, if_pos e4]
            · rw [if_neg (by omega), if_neg (by omega), if_neg (by omega), if_neg e1, if_neg e1, if_neg e2, if_neg e3, if_neg e4]
    · funext q
      show z_u (fun b => if b = h.1 + 2 then z_lr 2 (h.1 + 2) else if b = h.1 + 2 + 1 ∨ b = h.1 + 2 + 2 then (fun _ => none) else if b = h.1 + 1 + 1 then (fun _ => none) else z_u (fun c => if c = h.1 + 1 then (fun _ => none) else h.2.2 c) h.1 1 (some (h.1 + 1)) b) h.1 2 (some (h.1 + 2)) q = (if q = h.1 then z_lr 0 h.1 else if q = h.1 + 2 then z_lr 2 (h.1 + 2) else if q = h.1 + 1 ∨ q = h.1 + 3 ∨ q = h.1 + 4 then (fun _ => none) else h.2.2 q)
      by_cases e : q = h.1
      · rw [if_pos e, e]
        funext k
        by_cases e2 : k = 2
        · rw [e2, z_u_same]
          rfl
        · rw [z_u_col e2]
          show (if h.1 = h.1 + 2 then z_lr 2 (h.1 + 2) else if h.1 = h.1 + 2 + 1 ∨ h.1 = h.1 + 2 + 2 then (fun _ => none) else if h.1 = h.1 + 1 + 1 then (fun _ => none) else _ : Nat → Option Nat) k = _
          rw [if_neg (by omega), if_neg (by omega), if_neg (by omega)]
          by_cases e1 : k = 1
          · rw [e1, z_u_same]
            rfl
          · rw [z_u_col e1]
            show (if h.1 = h.1 + 1 then (fun _ => none) else h.2.2 h.1 : Nat → Option Nat) k = _
            rw [if_neg (by omega), hR]
            match k, e1, e2 with
            | 0, _, _ => rfl
            | k + 3, _, _ => rfl
      · rw [if_neg e, z_u_row e]
        show (if q = h.1 + 2 then z_lr 2 (h.1 + 2) else if q = h.1 + 2 + 1 ∨ q = h.1 + 2 + 2 then (fun _ => none) else if q = h.1 + 1 + 1 then (fun _ => none) else _ : Nat → Option Nat) = _
        by_cases e2 : q = h.1 + 2
        · rw [if_pos e2, if_pos e2]
        · rw [if_neg e2, if_neg e2, if_neg e2]
          by_cases e3 : q = h.1 + 2 + 1 ∨ q = h.1 + 2 + 2
          · rw [if_pos e3, if_pos (by omega)]
          · rw [if_neg e3, z_u_row e]
            show (if q = h.1 + 1 then (fun _ => none) else h.2.2 q : Nat → Option Nat) = _
            by_cases e1 : q = h.1 + 1
            · rw [if_pos e1, if_pos (Or.inl e1)]
            · rw [if_neg e1, if_neg (by omega)]
  · have z0 : ∀ j, j ≠ 0 → I' h.1 j = 0 := fun j hj => by rw [(old h.1 (Nat.le_refl _)).1, z_u_col hj, hI]
    refine ⟨?_, z0 3 (by decide), z0 4 (by decide), z0 5 (by decide), z0 6 (by decide), ?_, z0 8 (by decide), fun k hk => absurd hk (Nat.not_lt_zero _), ⟨fun p hp => g1 p hp, i2⟩, fun p hp => g3 p⟩
    · rw [(old h.1 (Nat.le_refl _)).1, z_u_same]
    · rw [(old h.1 (Nat.le_refl _)).2, hJ]
      rfl
