/-! THE CONSTRUCTORS of the class -/
def z_h0 : zH := (0, fun _ => (99, 0), fun _ _ => none)
/-- the heap's beginning up to place n -/
def z_b (n : Nat) : zH := (n, fun q => if q ≤ n then z_t0 q else (99, 0), fun q => if q ≤ n then z_r0 0 q else fun _ => none)
theorem m_Cinit (d : Nat) (h : zH) (I : zI) (J : zJ) (a : Nat) : z_C yJxa1e45_init_da8c8 cJxa1e45_init_da8c8 1 none (d + 1) [.ref a] h I J 0 0 (z_q none h I J) := by
  refine z_C.of (by decide) (Nat.le_of_ble_eq_true rfl) fun K E X => ?_
  refine v_aload_n E dJxa1e45_init_da8c8_0 rfl ?_
  refine v_objInit E dJxa1e45_init_da8c8_1 k_Jxa1e45_1 (Nat.le_of_ble_eq_true rfl) ?_
  exact v_vret E X dJxa1e45_init_da8c8_4 z_qq
theorem m_ALinit (d : Nat) (h : zH) (I : zI) (J : zJ) (a : Nat) (hT : (h.2.1 a).1 = 0) : z_C yJxc12de_init_da8c8 cJxc12de_init_da8c8 1 none (d + 2) [.ref a] h I J 0 0 (z_q none h (z_u I a 0 (nI 0)) J) := by
  refine z_C.of (by decide) (Nat.le_of_ble_eq_true rfl) fun K E X => ?_
  refine v_aload_n E dJxc12de_init_da8c8_0 rfl ?_
  refine v_callI0 E dJxc12de_init_da8c8_1 k_Jxc12de_1 Y_Jxa1e45_init_da8c8 (m_Cinit d h I J a) rfl rfl (Nat.le_of_ble_eq_true rfl) ?_
  refine v_aload_n E dJxc12de_init_da8c8_4 rfl ?_
  refine v_iconst (v := nI 0) E dJxc12de_init_da8c8_5 (by decide) ?_
  refine v_putI E f_Jxc12de_7 dJxc12de_init_da8c8_6 hT rfl rfl rfl (by decide) ?_
  exact v_vret E X dJxc12de_init_da8c8_9 z_qq
theorem m_Ainit (d : Nat) (h : zH) (I : zI) (J : zJ) (a : Nat) (hT : (h.2.1 a).1 = 0) : z_C yJx4a65c_init_da8c8 cJx4a65c_init_da8c8 1 none (d + 3) [.ref a] h I J 0 0 (z_q none (h.1, h.2.1, z_u h.2.2 a 1 (some 0)) (z_u I a 0 (nI 0)) J) := by
  refine z_C.of (by decide) (Nat.le_of_ble_eq_true rfl) fun K E X => ?_
  refine v_aload_n E dJx4a65c_init_da8c8_0 rfl ?_
  refine v_callI0 E dJx4a65c_init_da8c8_1 k_Jx4a65c_1 Y_Jxc12de_init_da8c8 (m_ALinit d h I J a hT) rfl rfl (Nat.le_of_ble_eq_true rfl) ?_
  refine v_aload_n E dJx4a65c_init_da8c8_4 rfl ?_
  refine v_getstatic0 E dJx4a65c_init_da8c8_5 f0_Jx4a65c_39 ?_
  refine v_putR E f_Jx4a65c_9 dJx4a65c_init_da8c8_8 hT rfl (fun _ => rfl) (fun _ => rfl) (by decide) ?_
  exact v_vret E X dJx4a65c_init_da8c8_11 z_qq
/-- the shape behind Needs's constructor -/
def z_nR (R : Nat → Nat → Option Nat) : Nat → Nat → Option Nat := fun q => match q with
  | 7 => z_r0 0 7
  | 8 => fun _ => none
  | 9 => fun _ => none
  | 10 => fun _ => none
  | 11 => fun _ => none
  | 12 => fun _ => none
  | q => R q
def z_nT (T : Nat → Nat × Nat) : Nat → Nat × Nat := fun q => match q with
  | 8 => (10, 100)
  | 9 => (10, 100)
  | 10 => (10, 100)
  | 11 => (10, 10)
  | 12 => (10, 1024)
  | q => T q
theorem m_Ninit (d : Nat) (T : Nat → Nat × Nat) (R : Nat → Nat → Option Nat) (I : zI) (J : zJ) (hT : (T 7).1 = 3) (hR : R 7 = fun _ => none) : z_C yX2_init cX2_init 1 none (d + 1) [.ref 7] (7, T, R) I J 5 1334 (fun r h' I' J' => r = none ∧ h' = (12, z_nT T, z_nR R) ∧ ∀ q, q ≤ 7 → I' q = I q ∧ J' q = J q) := by
  refine z_C.of (by decide) (Nat.le_of_ble_eq_true rfl) fun K E X => ?_
  refine v_aload_n E dX2_init_0 rfl ?_
  refine v_objInit E dX2_init_1 k_X2_3 (Nat.le_of_ble_eq_true rfl) ?_
  refine v_aload_n E dX2_init_4 rfl ?_
  refine v_bipush (v := nI 100) E dX2_init_5 (by decide) ?_
  refine v_newI E dX2_init_7 (kc := 4) (ks := 1234) (N := 100) rfl (by decide) ?_
  refine v_putR E f_X2_9 dX2_init_9 hT rfl (fun _ => rfl) (fun _ => rfl) (by decide) ?_
  refine v_aload_n E dX2_init_12 rfl ?_
  refine v_bipush (v := nI 100) E dX2_init_13 (by decide) ?_
  refine v_newI E dX2_init_15 (kc := 3) (ks := 1134) (N := 100) rfl (by decide) ?_
  refine v_putR E f_X2_15 dX2_init_17 hT rfl (fun _ => rfl) (fun _ => rfl) (by decide) ?_
  refine v_aload_n E dX2_init_20 rfl ?_
  refine v_bipush (v := nI 100) E dX2_init_21 (by decide) ?_
  refine v_newI E dX2_init_23 (kc := 2) (ks := 1034) (N := 100) rfl (by decide) ?_
  refine v_putR E f_X2_18 dX2_init_25 hT rfl (fun _ => rfl) (fun _ => rfl) (by decide) ?_
  refine v_aload_n E dX2_init_28 rfl ?_
  refine v_bipush (v := nI 10) E dX2_init_29 (by decide) ?_
  refine v_newI E dX2_init_31 (kc := 1) (ks := 1024) (N := 10) rfl (by decide) ?_
  refine v_putR E f_X2_21 dX2_init_33 hT rfl (fun _ => rfl) (fun _ => rfl) (by decide) ?_
  refine v_aload_n E dX2_init_36 rfl ?_
  refine v_sipush (v := nI 1024) E dX2_init_37 (by decide) ?_
  refine v_newI E dX2_init_40 (kc := 0) (ks := 0) (N := 1024) rfl (by decide) ?_
  refine v_putR E f_X2_24 dX2_init_42 hT rfl (fun _ => rfl) (fun _ => rfl) (by decide) ?_
  refine v_vret E X dX2_init_45 ⟨rfl, ?_, fun q hq => ⟨?_, ?_⟩⟩
  · refine Prod.ext rfl (Prod.ext ?_ ?_)
    · funext q
      match q with
      | 0 => rfl
      | 1 => rfl
      | 2 => rfl
      | 3 => rfl
      | 4 => rfl
      | 5 => rfl
      | 6 => rfl
      | 7 => rfl
      | 8 => rfl
      | 9 => rfl
      | 10 => rfl
      | 11 => rfl
      | 12 => rfl
      | q + 13 => rfl
    · funext q
      match q with
      | 7 =>
        funext k
        match k with
        | 0 => rfl
        | 1 => rfl
        | 2 => exact congrFun hR 2
        | 3 => rfl
        | 4 => rfl
        | 5 => rfl
        | k + 6 => exact congrFun hR (k + 6)
      | 0 => rfl
      | 1 => rfl
      | 2 => rfl
      | 3 => rfl
      | 4 => rfl
      | 5 => rfl
      | 6 => rfl
      | 8 => rfl
      | 9 => rfl
      | 10 => rfl
      | 11 => rfl
      | 12 => rfl
      | q + 13 => rfl
  · rcases (by omega : q = 0 ∨ q = 1 ∨ q = 2 ∨ q = 3 ∨ q = 4 ∨ q = 5 ∨ q = 6 ∨ q = 7) with rfl | rfl | rfl | rfl | rfl | rfl | rfl | rfl <;> rfl
  · rcases (by omega : q = 0 ∨ q = 1 ∨ q = 2 ∨ q = 3 ∨ q = 4 ∨ q = 5 ∨ q = 6 ∨ q = 7) with rfl | rfl | rfl | rfl | rfl | rfl | rfl | rfl <;> rfl
def s_0 : zS := ((0, fun _ => 0), (0, fun _ => 0, fun _ => 0, fun _ => 0, fun _ _ => 0, fun _ => false), (0, fun _ => 0, fun _ => 0))
theorem s_0_wf : s_wf s_0 := ⟨by decide, by decide, by decide, fun _ => (by decide : 0 < 5), fun _ => (by decide : 0 < 2 ^ 0), fun _ => Nat.zero_le 12, fun _ k h => absurd h (Nat.not_lt_zero k), fun c h => absurd h (Nat.not_lt_zero c), fun _ _ => ⟨rfl, rfl, rfl⟩, fun _ _ => rfl⟩
theorem m_OCinit (d : Nat) (I : zI) (J : zJ) (hI : I 1 = fun _ => 0) : z_C yX3_init cX3_init 1 none (d + 4) [.ref 1] (z_new z_h0 4 0) I J 15 1501 (fun r h' I' J' => r = none ∧ h' = z_b 16 ∧ cI s_0 I' J') := by
  refine z_C.of (by decide) (Nat.le_of_ble_eq_true rfl) fun K E X => ?_
  refine v_aload_n E dX3_init_0 rfl ?_
  refine v_objInit E dX3_init_1 k_X3_1 (Nat.le_of_ble_eq_true rfl) ?_
  refine v_aload_n E dX3_init_4 rfl ?_
  refine v_bipush (v := nI 10) E dX3_init_5 (by decide) ?_
  refine v_newJ E dX3_init_7 (kc := 14) (ks := 1491) (N := 10) rfl (by decide) ?_
  refine v_putR E f_X3_9 dX3_init_9 rfl rfl (fun _ => rfl) (fun _ => rfl) (by decide) ?_
  refine v_aload_n E dX3_init_12 rfl ?_
  refine v_new (kc := 13) (ks := 1488) E dX3_init_13 (by decide) c_X3_13 i_n0 i_i0 i_t0 ?_
  refine v_dup E dX3_init_16 rfl ?_
  refine v_callI0 (kc := 13) (ks := 1488) E dX3_init_17 k_X3_15 Y_Jx4a65c_init_da8c8 (m_Ainit d _ _ _ 3 rfl) rfl rfl (Nat.le_of_ble_eq_true rfl) ?_
  refine v_putR E f_X3_16 dX3_init_20 rfl rfl (fun _ => rfl) (fun _ => rfl) (by decide) ?_
  refine v_aload_n E dX3_init_23 rfl ?_
  refine v_bipush (v := nI 40) E dX3_init_24 (by decide) ?_
  refine v_newI E dX3_init_26 (kc := 12) (ks := 1448) (N := 40) rfl (by decide) ?_
  refine v_putR E f_X3_20 dX3_init_28 rfl rfl (fun _ => rfl) (fun _ => rfl) (by decide) ?_
  refine v_aload_n E dX3_init_31 rfl ?_
  refine v_bipush (v := nI 40) E dX3_init_32 (by decide) ?_
  refine v_newI E dX3_init_34 (kc := 11) (ks := 1408) (N := 40) rfl (by decide) ?_
  refine v_putR E f_X3_24 dX3_init_36 rfl rfl (fun _ => rfl) (fun _ => rfl) (by decide) ?_
  refine v_aload_n E dX3_init_39 rfl ?_
  refine v_bipush (v := nI 40) E dX3_init_40 (by decide) ?_
  refine v_newI E dX3_init_42 (kc := 10) (ks := 1368) (N := 40) rfl (by decide) ?_
  refine v_putR E f_X3_27 dX3_init_44 rfl rfl (fun _ => rfl) (fun _ => rfl) (by decide) ?_
  refine v_aload_n E dX3_init_47 rfl ?_
  refine v_new (kc := 9) (ks := 1362) E dX3_init_48 (by decide) c_X3_30 i_n3 i_i3 i_t3 ?_
  refine v_dup E dX3_init_51 rfl ?_
  refine v_callI (kc := 4) (ks := 28) E dX3_init_52 k_X3_32 Y_X2_init (m_Ninit (d + 2) _ _ _ _ rfl rfl) rfl rfl (Nat.le_of_ble_eq_true rfl) ?_
  rintro r h' I1 J1 ⟨rfl, rfl, g1⟩
  refine v_putR E f_X3_33 dX3_init_55 rfl rfl (fun _ => rfl) (fun _ => rfl) (by decide) ?_
  refine v_aload_n E dX3_init_58 rfl ?_
  refine v_new (kc := 3) (ks := 25) E dX3_init_59 (by decide) c_X3_37 i_n1 i_i1 i_t1 ?_
  refine v_dup E dX3_init_62 rfl ?_
  refine v_callI (kc := 1) (ks := 5) E dX3_init_63 k_X3_39 Y_X0_init (m_Kinit (d + 2) _ _ _ 13 rfl rfl rfl) rfl rfl (Nat.le_of_ble_eq_true rfl) ?_
  rintro r h' I2 J2 ⟨rfl, rfl, g2, g3, g4⟩
  refine v_putR E f_X3_40 dX3_init_66 rfl rfl (fun _ => rfl) (fun _ => rfl) (by decide) ?_
  refine v_aload_n E dX3_init_69 rfl ?_
  refine v_iconst (v := nI 5) E dX3_init_70 (by decide) ?_
  refine v_newI E dX3_init_71 (kc := 0) (ks := 0) (N := 5) rfl (by decide) ?_
  refine v_putR E f_X3_44 dX3_init_73 rfl rfl (fun _ => rfl) (fun _ => rfl) (by decide) ?_
  have i1 : I2 1 = fun _ => 0 := by
    rw [(g3 1 (by omega)).1]
    refine Eq.trans (show _ = I1 1 from rfl) ?_
    rw [(g1 1 (by omega)).1]
    exact hI
  have i3 : I2 3 2 = 0 := by
    rw [(g3 3 (by omega)).1]
    refine Eq.trans (show _ = I1 3 2 from rfl) ?_
    rw [(g1 3 (by omega)).1]
    rfl
  have i5 : I2 5 = fun _ => 0 := by
    rw [(g3 5 (by omega)).1]
    refine Eq.trans (show _ = I1 5 from rfl) ?_
    rw [(g1 5 (by omega)).1]
    rfl
  have i6 : I2 6 = fun _ => 0 := by
    rw [(g3 6 (by omega)).1]
    refine Eq.trans (show _ = I1 6 from rfl) ?_
    rw [(g1 6 (by omega)).1]
    rfl
  refine v_vret E X dX3_init_76 ⟨rfl, ?_, ?_, ?_, ?_, fun p h => absurd h (Nat.not_lt_zero p), fun p h => absurd h (Nat.not_lt_zero p), fun c _ => ?_, fun c _ => ?_, fun p h => absurd h (Nat.not_lt_zero p)⟩
  · refine Prod.ext rfl (Prod.ext ?_ ?_)
    · funext q
      match q with
      | 0 => rfl
      | 1 => rfl
      | 2 => rfl
      | 3 => rfl
      | 4 => rfl
      | 5 => rfl
      | 6 => rfl
      | 7 => rfl
      | 8 => rfl
      | 9 => rfl
      | 10 => rfl
      | 11 => rfl
      | 12 => rfl
      | 13 => rfl
      | 14 => rfl
      | 15 => rfl
      | 16 => rfl
      | q + 17 => rfl
    · funext q
      match q with
      | 0 => rfl
      | 1 =>
        funext k
        match k with
        | 0 => rfl
        | 1 => rfl
        | 2 => rfl
        | 3 => rfl
        | 4 => rfl
        | 5 => rfl
        | 6 => rfl
        | 7 => rfl
        | 8 => rfl
        | 9 => rfl
        | k + 10 => rfl
      | 2 => rfl
      | 3 =>
        funext k
        match k with
        | 0 => rfl
        | 1 => rfl
        | k + 2 => rfl
      | 4 => rfl
      | 5 => rfl
      | 6 => rfl
      | 7 => rfl
      | 8 => rfl
      | 9 => rfl
      | 10 => rfl
      | 11 => rfl
      | 12 => rfl
      | 13 =>
        funext k
        match k with
        | 0 => rfl
        | 1 => rfl
        | k + 2 => rfl
      | 14 => rfl
      | 15 => rfl
      | 16 => rfl
      | q + 17 => rfl
  · exact congrFun i1 1
  · exact congrFun i1 6
  · exact i3
  · exact congrFun i5 c
  · exact congrFun i6 c
