/-! THE CONSTRUCTORS of the class -/
def z_h0 : zH := (0, fun _ => (99, 0), fun _ _ => none)
/-- the heap's beginning up to place n -/
def z_b (n : Nat) : zH := (n, fun q => if q ≤ n then z_t0 q else (99, 0), fun q => if q ≤ n then z_r0 0 q else fun _ => none)
theorem m_Cinit (d : Nat) (h : zH) (I : zI) (J : zJ) (a : Nat) : z_C yJxa1e45_init_da8c8 cJxa1e45_init_da8c8 1 none (d + 1) [.ref a] h I J 0 0 (z_q none h I J) := by
  refine z_C.of (by decide) (Nat.le_of_ble_eq_true rfl) fun K E X => ?_
  refine v_aload_n E dJxa1e45_init_da8c8_0 rfl ?_
  refine v_objInit E dJxa1e45_init_da8c8_1 k_Jxa1e45_1 (Nat.le_of_ble_eq_true rfl) ?_
  exact v_vret E X dJxa1e45_init_da8c8_4 z_qq
theorem m_ALinit (d : Nat) (h : zH) (I : zI) (J : zJ) (a : Nat) (hT : (h.2.1 a).1 = 0) : z_C yJxc12de_init_da8c8 cJxc12de_init_da8c8 1 none (d + 2) [.ref a] h I J 0 0 (z_q none h (z_u I a 0 (nI 0)) J) := by
  refine z_C.of (by decide) (Nat.le_of_ble_eq_true rfl) fun K E X => ?_
  refine v_aload_n E dJxc12de_init_da8c8_0 rfl ?_
  refine v_callI0 E dJxc12de_init_da8c8_1 k_Jxc12de_1 Y_Jxa1e45_init_da8c8 (m_Cinit d h I J a) rfl rfl (Nat.le_of_ble_eq_true rfl) ?_
  refine v_aload_n E dJxc12de_init_da8c8_4 rfl ?_
  refine v_iconst (v := nI 0) E dJxc12de_init_da8c8_5 (by decide) ?_
  refine v_putI E f_Jxc12de_7 dJxc12de_init_da8c8_6 hT rfl rfl rfl (by decide) ?_
  exact v_vret E X dJxc12de_init_da8c8_9 z_qq
theorem m_Ainit (d : Nat) (h : zH) (I : zI) (J : zJ) (a : Nat) (hT : (h.2.1 a).1 = 0) : z_C yJx4a65c_init_da8c8 cJx4a65c_init_da8c8 1 none (d + 3) [.ref a] h I J 0 0 (z_q none (h.1, h.2.1, z_u h.2.2 a 1 (some 0)) (z_u I a 0 (nI 0)) J) := by
  refine z_C.of (by decide) (Nat.le_of_ble_eq_true rfl) fun K E X => ?_
  refine v_aload_n E dJx4a65c_init_da8c8_0 rfl ?_
  refine v_callI0 E dJx4a65c_init_da8c8_1 k_Jx4a65c_1 Y_Jxc12de_init_da8c8 (m_ALinit d h I J a hT) rfl rfl (Nat.le_of_ble_eq_true rfl) ?_
  refine v_aload_n E dJx4a65c_init_da8c8_4 rfl ?_
  refine v_getstatic0 E dJx4a65c_init_da8c8_5 f0_Jx4a65c_39 ?_
  refine v_putR E f_Jx4a65c_9 dJx4a65c_init_da8c8_8 hT rfl (fun _ => rfl) (fun _ => rfl) (by decide) ?_
  exact v_vret E X dJx4a65c_init_da8c8_11 z_qq
