/-! THE MODEL: its constructor; what its cells hold -/
def mI (s : zS) (I : zI) (J : zJ) : Prop := I 17 0 = nI (s_np s) ∧ I 17 1 = nI (s_nl s) ∧ I 17 2 = nI (s_nc s) ∧ (∀ p, p < s_np s → J 18 p = s_pv s p) ∧ (∀ l, l < s_nl s → I 19 l = nI (s_kd s l)) ∧ (∀ l, l < 10 → I 20 l = nI (s_wt s l)) ∧ (∀ l, l < 10 → I 21 l = nI (s_hm s l)) ∧ (∀ l k, l < 10 → k < s_hm s l → I 22 (12 * l + k) = nI (s_hs s l k)) ∧ (∀ l, l < 10 → I 23 l = nI (s_of s l).toNat) ∧ (∀ c, c < s_nc s → I 24 c = nI (s_cm s c)) ∧ ∀ c, c < s_nc s → I 25 c = nI (s_hb s c)
theorem z_36 : z_b 36 = z_s 0 := by
  refine Prod.ext rfl (Prod.ext ?_ ?_)
  · funext q
    show (if q ≤ 36 then z_t0 q else (99, 0) : Nat × Nat) = z_sT 0 q
    unfold z_sT
    by_cases e : q < 37
    · rw [if_pos (by omega), if_pos e]
    · rw [if_neg (by omega), if_neg e, if_pos rfl, if_neg (Nat.not_lt_zero _)]
      split <;> rfl
  · funext q
    show (if q ≤ 36 then z_r0 0 q else fun _ => none : Nat → Option Nat) = z_sR 0 q
    unfold z_sR
    by_cases e : q < 37
    · rw [if_pos (by omega), if_pos e]
    · rw [if_neg (by omega), if_neg e, if_pos rfl, if_neg (Nat.not_lt_zero _)]
      split <;> rfl
theorem m_MCinit (d : Nat) (I : zI) (J : zJ) : z_C yX4_init cX4_init 1 none (d + 1) [.ref 17] (z_new (z_b 16) 5 0) I J 19 13950 (fun r h' I' J' => r = none ∧ h' = z_s 0 ∧ mI s_0 I' J' ∧ ∀ q, q ≤ 16 → I' q = I q ∧ J' q = J q) := by
  rw [← z_36]
  refine z_C.of (by decide) (Nat.le_of_ble_eq_true rfl) fun K E X => ?_
  refine v_aload_n E dX4_init_0 rfl ?_
  refine v_objInit E dX4_init_1 k_X4_1 (Nat.le_of_ble_eq_true rfl) ?_
  refine v_aload_n E dX4_init_4 rfl ?_
  refine v_iconst (v := nI 0) E dX4_init_5 (by decide) ?_
  refine v_putI E f_X4_7 dX4_init_6 rfl rfl rfl rfl (by decide) ?_
  refine v_aload_n E dX4_init_9 rfl ?_
  refine v_iconst (v := nI 0) E dX4_init_10 (by decide) ?_
  refine v_putI E f_X4_13 dX4_init_11 rfl rfl rfl rfl (by decide) ?_
  refine v_aload_n E dX4_init_14 rfl ?_
  refine v_iconst (v := nI 0) E dX4_init_15 (by decide) ?_
  refine v_putI E f_X4_16 dX4_init_16 rfl rfl rfl rfl (by decide) ?_
  refine v_aload_n E dX4_init_19 rfl ?_
  refine v_bipush (v := nI 10) E dX4_init_20 (by decide) ?_
  refine v_newJ E dX4_init_22 (kc := 18) (ks := 13940) (N := 10) rfl (by decide) ?_
  refine v_putR E f_X4_19 dX4_init_24 rfl rfl (fun _ => rfl) (fun _ => rfl) (by decide) ?_
  refine v_aload_n E dX4_init_27 rfl ?_
  refine v_bipush (v := nI 10) E dX4_init_28 (by decide) ?_
  refine v_newI E dX4_init_30 (kc := 17) (ks := 13930) (N := 10) rfl (by decide) ?_
  refine v_putR E f_X4_23 dX4_init_32 rfl rfl (fun _ => rfl) (fun _ => rfl) (by decide) ?_
  refine v_aload_n E dX4_init_35 rfl ?_
  refine v_bipush (v := nI 10) E dX4_init_36 (by decide) ?_
  refine v_newI E dX4_init_38 (kc := 16) (ks := 13920) (N := 10) rfl (by decide) ?_
  refine v_putR E f_X4_27 dX4_init_40 rfl rfl (fun _ => rfl) (fun _ => rfl) (by decide) ?_
  refine v_aload_n E dX4_init_43 rfl ?_
  refine v_bipush (v := nI 10) E dX4_init_44 (by decide) ?_
  refine v_newI E dX4_init_46 (kc := 15) (ks := 13910) (N := 10) rfl (by decide) ?_
  refine v_putR E f_X4_30 dX4_init_48 rfl rfl (fun _ => rfl) (fun _ => rfl) (by decide) ?_
  refine v_aload_n E dX4_init_51 rfl ?_
  refine v_bipush (v := nI 120) E dX4_init_52 (by decide) ?_
  refine v_newI E dX4_init_54 (kc := 14) (ks := 13790) (N := 120) rfl (by decide) ?_
  refine v_putR E f_X4_33 dX4_init_56 rfl rfl (fun _ => rfl) (fun _ => rfl) (by decide) ?_
  refine v_aload_n E dX4_init_59 rfl ?_
  refine v_bipush (v := nI 10) E dX4_init_60 (by decide) ?_
  refine v_newZ E dX4_init_62 (kc := 13) (ks := 13780) (N := 10) rfl (by decide) ?_
  refine v_putR E f_X4_36 dX4_init_64 rfl rfl (fun _ => rfl) (fun _ => rfl) (by decide) ?_
  refine v_aload_n E dX4_init_67 rfl ?_
  refine v_bipush (v := nI 40) E dX4_init_68 (by decide) ?_
  refine v_newI E dX4_init_70 (kc := 12) (ks := 13740) (N := 40) rfl (by decide) ?_
  refine v_putR E f_X4_40 dX4_init_72 rfl rfl (fun _ => rfl) (fun _ => rfl) (by decide) ?_
  refine v_aload_n E dX4_init_75 rfl ?_
  refine v_bipush (v := nI 40) E dX4_init_76 (by decide) ?_
  refine v_newI E dX4_init_78 (kc := 11) (ks := 13700) (N := 40) rfl (by decide) ?_
  refine v_putR E f_X4_43 dX4_init_80 rfl rfl (fun _ => rfl) (fun _ => rfl) (by decide) ?_
  refine v_aload_n E dX4_init_83 rfl ?_
  refine v_bipush (v := nI 56) E dX4_init_84 (by decide) ?_
  refine v_newI E dX4_init_86 (kc := 10) (ks := 13644) (N := 56) rfl (by decide) ?_
  refine v_putR E f_X4_46 dX4_init_88 rfl rfl (fun _ => rfl) (fun _ => rfl) (by decide) ?_
  refine v_aload_n E dX4_init_91 rfl ?_
  refine v_bipush (v := nI 56) E dX4_init_92 (by decide) ?_
  refine v_newZ E dX4_init_94 (kc := 9) (ks := 13588) (N := 56) rfl (by decide) ?_
  refine v_putR E f_X4_49 dX4_init_96 rfl rfl (fun _ => rfl) (fun _ => rfl) (by decide) ?_
  refine v_aload_n E dX4_init_99 rfl ?_
  refine v_iconst (v := nI 0) E dX4_init_100 (by decide) ?_
  refine v_putI E f_X4_52 dX4_init_101 rfl rfl rfl rfl (by decide) ?_
  refine v_aload_n E dX4_init_104 rfl ?_
  refine v_iconst (v := nI 0) E dX4_init_105 (by decide) ?_
  refine v_putI E f_X4_55 dX4_init_106 rfl rfl rfl rfl (by decide) ?_
  refine v_aload_n E dX4_init_109 rfl ?_
  refine v_sipush (v := nI 10240) E dX4_init_110 (by decide) ?_
  refine v_newZ E dX4_init_113 (kc := 8) (ks := 3348) (N := 10240) rfl (by decide) ?_
  refine v_putR E f_X4_58 dX4_init_115 rfl rfl (fun _ => rfl) (fun _ => rfl) (by decide) ?_
  refine v_aload_n E dX4_init_118 rfl ?_
  refine v_sipush (v := nI 1024) E dX4_init_119 (by decide) ?_
  refine v_newZ E dX4_init_122 (kc := 7) (ks := 2324) (N := 1024) rfl (by decide) ?_
  refine v_putR E f_X4_61 dX4_init_124 rfl rfl (fun _ => rfl) (fun _ => rfl) (by decide) ?_
  refine v_aload_n E dX4_init_127 rfl ?_
  refine v_bipush (v := nI 10) E dX4_init_128 (by decide) ?_
  refine v_newI E dX4_init_130 (kc := 6) (ks := 2314) (N := 10) rfl (by decide) ?_
  refine v_putR E f_X4_64 dX4_init_132 rfl rfl (fun _ => rfl) (fun _ => rfl) (by decide) ?_
  refine v_aload_n E dX4_init_135 rfl ?_
  refine v_bipush (v := nI 100) E dX4_init_136 (by decide) ?_
  refine v_newI E dX4_init_138 (kc := 5) (ks := 2214) (N := 100) rfl (by decide) ?_
  refine v_putR E f_X4_67 dX4_init_140 rfl rfl (fun _ => rfl) (fun _ => rfl) (by decide) ?_
  refine v_aload_n E dX4_init_143 rfl ?_
  refine v_bipush (v := nI 100) E dX4_init_144 (by decide) ?_
  refine v_newI E dX4_init_146 (kc := 4) (ks := 2114) (N := 100) rfl (by decide) ?_
  refine v_putR E f_X4_70 dX4_init_148 rfl rfl (fun _ => rfl) (fun _ => rfl) (by decide) ?_
  refine v_aload_n E dX4_init_151 rfl ?_
  refine v_iconst (v := nI 0) E dX4_init_152 (by decide) ?_
  refine v_putI E f_X4_73 dX4_init_153 rfl rfl rfl rfl (by decide) ?_
  refine v_aload_n E dX4_init_156 rfl ?_
  refine v_sipush (v := nI 1024) E dX4_init_157 (by decide) ?_
  refine v_newI E dX4_init_160 (kc := 3) (ks := 1090) (N := 1024) rfl (by decide) ?_
  refine v_putR E f_X4_76 dX4_init_162 rfl rfl (fun _ => rfl) (fun _ => rfl) (by decide) ?_
  refine v_aload_n E dX4_init_165 rfl ?_
  refine v_sipush (v := nI 1024) E dX4_init_166 (by decide) ?_
  refine v_newZ E dX4_init_169 (kc := 2) (ks := 66) (N := 1024) rfl (by decide) ?_
  refine v_putR E f_X4_79 dX4_init_171 rfl rfl (fun _ => rfl) (fun _ => rfl) (by decide) ?_
  refine v_aload_n E dX4_init_174 rfl ?_
  refine v_bipush (v := nI 60) E dX4_init_175 (by decide) ?_
  refine v_newI E dX4_init_177 (kc := 1) (ks := 6) (N := 60) rfl (by decide) ?_
  refine v_putR E f_X4_82 dX4_init_179 rfl rfl (fun _ => rfl) (fun _ => rfl) (by decide) ?_
  refine v_aload_n E dX4_init_182 rfl ?_
  refine v_bipush (v := nI 6) E dX4_init_183 (by decide) ?_
  refine v_newI E dX4_init_185 (kc := 0) (ks := 0) (N := 6) rfl (by decide) ?_
  refine v_putR E f_X4_85 dX4_init_187 rfl rfl (fun _ => rfl) (fun _ => rfl) (by decide) ?_
  refine v_vret E X dX4_init_190 ⟨rfl, ?_, ⟨rfl, rfl, rfl, fun p h => absurd h (Nat.not_lt_zero p), fun p h => absurd h (Nat.not_lt_zero p), fun _ _ => rfl, fun _ _ => rfl, fun l k _ h => absurd h (Nat.not_lt_zero k), fun _ _ => rfl, fun p h => absurd h (Nat.not_lt_zero p), fun p h => absurd h (Nat.not_lt_zero p)⟩, fun q hq => ⟨?_, ?_⟩⟩
  · refine Prod.ext rfl (Prod.ext ?_ ?_)
    · funext q
      match q with
      | 0 => rfl
      | 1 => rfl
      | 2 => rfl
      | 3 => rfl
      | 4 => rfl
      | 5 => rfl
      | 6 => rfl
      | 7 => rfl
      | 8 => rfl
      | 9 => rfl
      | 10 => rfl
      | 11 => rfl
      | 12 => rfl
      | 13 => rfl
      | 14 => rfl
      | 15 => rfl
      | 16 => rfl
      | 17 => rfl
      | 18 => rfl
      | 19 => rfl
      | 20 => rfl
      | 21 => rfl
      | 22 => rfl
      | 23 => rfl
      | 24 => rfl
      | 25 => rfl
      | 26 => rfl
      | 27 => rfl
      | 28 => rfl
      | 29 => rfl
      | 30 => rfl
      | 31 => rfl
      | 32 => rfl
      | 33 => rfl
      | 34 => rfl
      | 35 => rfl
      | 36 => rfl
      | q + 37 => rfl
    · funext q
      match q with
      | 0 => rfl
      | 1 => rfl
      | 2 => rfl
      | 3 => rfl
      | 4 => rfl
      | 5 => rfl
      | 6 => rfl
      | 7 => rfl
      | 8 => rfl
      | 9 => rfl
      | 10 => rfl
      | 11 => rfl
      | 12 => rfl
      | 13 => rfl
      | 14 => rfl
      | 15 => rfl
      | 16 => rfl
      | 17 =>
        funext k
        match k with
        | 0 => rfl
        | 1 => rfl
        | 2 => rfl
        | 3 => rfl
        | 4 => rfl
        | 5 => rfl
        | 6 => rfl
        | 7 => rfl
        | 8 => rfl
        | 9 => rfl
        | 10 => rfl
        | 11 => rfl
        | 12 => rfl
        | 13 => rfl
        | 14 => rfl
        | 15 => rfl
        | 16 => rfl
        | 17 => rfl
        | 18 => rfl
        | 19 => rfl
        | 20 => rfl
        | 21 => rfl
        | 22 => rfl
        | 23 => rfl
        | 24 => rfl
        | k + 25 => rfl
      | 18 => rfl
      | 19 => rfl
      | 20 => rfl
      | 21 => rfl
      | 22 => rfl
      | 23 => rfl
      | 24 => rfl
      | 25 => rfl
      | 26 => rfl
      | 27 => rfl
      | 28 => rfl
      | 29 => rfl
      | 30 => rfl
      | 31 => rfl
      | 32 => rfl
      | 33 => rfl
      | 34 => rfl
      | 35 => rfl
      | 36 => rfl
      | q + 37 => rfl
  · rcases (by omega : q = 0 ∨ q = 1 ∨ q = 2 ∨ q = 3 ∨ q = 4 ∨ q = 5 ∨ q = 6 ∨ q = 7 ∨ q = 8 ∨ q = 9 ∨ q = 10 ∨ q = 11 ∨ q = 12 ∨ q = 13 ∨ q = 14 ∨ q = 15 ∨ q = 16) with rfl | rfl | rfl | rfl | rfl | rfl | rfl | rfl | rfl | rfl | rfl | rfl | rfl | rfl | rfl | rfl | rfl <;> rfl
  · rcases (by omega : q = 0 ∨ q = 1 ∨ q = 2 ∨ q = 3 ∨ q = 4 ∨ q = 5 ∨ q = 6 ∨ q = 7 ∨ q = 8 ∨ q = 9 ∨ q = 10 ∨ q = 11 ∨ q = 12 ∨ q = 13 ∨ q = 14 ∨ q = 15 ∨ q = 16) with rfl | rfl | rfl | rfl | rfl | rfl | rfl | rfl | rfl | rfl | rfl | rfl | rfl | rfl | rfl | rfl | rfl <;> rfl
