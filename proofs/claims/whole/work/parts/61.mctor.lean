/-! THE MODEL's constructor -/
theorem z_36 : z_b 36 = z_s 0 := by
  refine Prod.ext rfl (Prod.ext ?_ ?_)
  · funext q
    show (if q ≤ 36 then z_t0 q else (99, 0) : Nat × Nat) = z_sT 0 q
    unfold z_sT
    by_cases e : q < 37
    · rw [if_pos (by omega), if_pos e]
    · rw [if_neg (by omega), if_neg e, if_pos rfl, if_neg (Nat.not_lt_zero _)]
      split <;> rfl
  · funext q
    show (if q ≤ 36 then z_r0 0 q else fun _ => none : Nat → Option Nat) = z_sR 0 q
    unfold z_sR
    by_cases e : q < 37
    · rw [if_pos (by omega), if_pos e]
    · rw [if_neg (by omega), if_neg e, if_pos rfl, if_neg (Nat.not_lt_zero _)]
      split <;> rfl
/-- the heap while the model is being made: up to place n, its fields below f -/
def z_m (n f : Nat) : zH := (n, fun q => if q ≤ n then z_t0 q else (99, 0), fun q => if q ≤ n then (if q = 17 then (fun j => if j < f then z_r0 0 17 j else none) else z_r0 0 q) else fun _ => none)
theorem z_m_step {n f t N : Nat} (hn : 17 ≤ n) (hT : z_t0 (n + 1) = (t, N)) (hR : z_r0 0 17 f = some (n + 1)) (hR1 : z_r0 0 (n + 1) = fun _ => none) : ((z_new (z_m n f) t N).1, (z_new (z_m n f) t N).2.1, z_u (z_new (z_m n f) t N).2.2 17 f (some (n + 1))) = z_m (n + 1) (f + 1) := by
  refine Prod.ext rfl (Prod.ext ?_ ?_)
  · funext q
    show (if q = n + 1 then (t, N) else if q ≤ n then z_t0 q else (99, 0) : Nat × Nat) = if q ≤ n + 1 then z_t0 q else (99, 0)
    by_cases e : q = n + 1
    · rw [if_pos e, if_pos (by omega), e, hT]
    · rw [if_neg e]
      by_cases e2 : q ≤ n
      · rw [if_pos e2, if_pos (by omega)]
      · rw [if_neg e2, if_neg (by omega)]
  · funext q j
    show (if q = 17 then (if j = f then some (n + 1) else (if q = n + 1 then (fun _ => none) else if q ≤ n then (if q = 17 then (fun j => if j < f then z_r0 0 17 j else none) else z_r0 0 q) else fun _ => none : Nat → Option Nat) j) else (if q = n + 1 then (fun _ => none) else if q ≤ n then (if q = 17 then (fun j => if j < f then z_r0 0 17 j else none) else z_r0 0 q) else fun _ => none : Nat → Option Nat) j) = (if q ≤ n + 1 then (if q = 17 then (fun j => if j < f + 1 then z_r0 0 17 j else none) else z_r0 0 q) else fun _ => none : Nat → Option Nat) j
    by_cases e : q = 17
    · rw [if_pos e, if_neg (by omega : ¬ q = n + 1), if_pos (by omega : q ≤ n), if_pos e, if_pos (by omega : q ≤ n + 1), if_pos e]
      by_cases e2 : j = f
      · rw [if_pos e2, e2]
        show _ = if f < f + 1 then z_r0 0 17 f else none
        rw [if_pos (by omega), hR]
      · rw [if_neg e2]
        show (if j < f then z_r0 0 17 j else none) = if j < f + 1 then z_r0 0 17 j else none
        by_cases e3 : j < f
        · rw [if_pos e3, if_pos (by omega)]
        · rw [if_neg e3, if_neg (by omega)]
    · rw [if_neg e]
      by_cases e2 : q = n + 1
      · rw [if_pos e2, if_pos (by omega), if_neg e, e2, hR1]
      · rw [if_neg e2]
        by_cases e3 : q ≤ n
        · rw [if_pos e3, if_neg e, if_pos (by omega), if_neg e]
        · rw [if_neg e3, if_neg (by omega)]
theorem z_m_skip {n f : Nat} (hR : z_r0 0 17 f = none) : z_m n f = z_m n (f + 1) := by
  refine Prod.ext rfl (Prod.ext rfl ?_)
  funext q j
  show (if q ≤ n then (if q = 17 then (fun j => if j < f then z_r0 0 17 j else none) else z_r0 0 q) else fun _ => none : Nat → Option Nat) j = (if q ≤ n then (if q = 17 then (fun j => if j < f + 1 then z_r0 0 17 j else none) else z_r0 0 q) else fun _ => none : Nat → Option Nat) j
  by_cases e : q ≤ n
  · rw [if_pos e, if_pos e]
    by_cases e2 : q = 17
    · rw [if_pos e2, if_pos e2]
      show (if j < f then z_r0 0 17 j else none) = if j < f + 1 then z_r0 0 17 j else none
      by_cases e3 : j < f
      · rw [if_pos e3, if_pos (by omega)]
      · rw [if_neg e3]
        by_cases e4 : j = f
        · rw [if_pos (by omega), e4, hR]
        · rw [if_neg (by omega)]
    · rw [if_neg e2, if_neg e2]
  · rw [if_neg e, if_neg e]
theorem z_m_first : z_new (z_b 16) 5 0 = z_m 17 0 := by
  refine Prod.ext rfl (Prod.ext ?_ ?_)
  · funext q
    show (if q = 17 then (5, 0) else if q ≤ 16 then z_t0 q else (99, 0) : Nat × Nat) = if q ≤ 17 then z_t0 q else (99, 0)
    by_cases e : q = 17
    · subst e; rfl
    · rw [if_neg e]
      by_cases e2 : q ≤ 16
      · rw [if_pos e2, if_pos (by omega)]
      · rw [if_neg e2, if_neg (by omega)]
  · funext q j
    show (if q = 17 then (fun _ => none) else if q ≤ 16 then z_r0 0 q else fun _ => none : Nat → Option Nat) j = (if q ≤ 17 then (if q = 17 then (fun j => if j < 0 then z_r0 0 17 j else none) else z_r0 0 q) else fun _ => none : Nat → Option Nat) j
    by_cases e : q = 17
    · rw [if_pos e, if_pos (by omega), if_pos e]
      show none = if j < 0 then z_r0 0 17 j else none
      rw [if_neg (Nat.not_lt_zero j)]
    · rw [if_neg e]
      by_cases e2 : q ≤ 16
      · rw [if_pos e2, if_pos (by omega), if_neg e]
      · rw [if_neg e2, if_neg (by omega)]
theorem z_m_last : z_m 36 25 = z_b 36 := by
  refine Prod.ext rfl (Prod.ext rfl ?_)
  funext q j
  show (if q ≤ 36 then (if q = 17 then (fun j => if j < 25 then z_r0 0 17 j else none) else z_r0 0 q) else fun _ => none : Nat → Option Nat) j = (if q ≤ 36 then z_r0 0 q else fun _ => none : Nat → Option Nat) j
  by_cases e : q ≤ 36
  · rw [if_pos e, if_pos e]
    by_cases e2 : q = 17
    · rw [if_pos e2, e2]
      show (if j < 25 then z_r0 0 17 j else none) = z_r0 0 17 j
      by_cases e3 : j < 25
      · rw [if_pos e3]
      · rw [if_neg e3]
        match j, e3 with
        | k + 25, _ => rfl
    · rw [if_neg e2]
  · rw [if_neg e, if_neg e]
/-- what the cells hold meanwhile -/
def mcI (I0 : zI) (J0 : zJ) (n : Nat) (I : zI) (J : zJ) : Prop := (∀ q, q ≤ 16 → I q = I0 q ∧ J q = J0 q) ∧ (∀ q, 17 < q → q ≤ n → I q = fun _ => 0) ∧ ∀ k, k < 3 → I 17 k = 0
theorem mcI.new {I0 : zI} {J0 : zJ} {n f : Nat} {I : zI} {J : zJ} (hn : 17 ≤ n) (h : mcI I0 J0 n I J) : mcI I0 J0 (n + 1) (z_zI (z_m n f) I) (z_zJ (z_m n f) J) := by
  refine ⟨fun q hq => ⟨?_, ?_⟩, fun q h1 h2 => ?_, fun k hk => ?_⟩
  · rw [z_zI_old (show q ≤ n by omega)]; exact (h.1 q hq).1
  · rw [z_zJ_old (show q ≤ n by omega)]; exact (h.1 q hq).2
  · by_cases e : q = n + 1
    · exact z_zI_new e
    · rw [z_zI_old (show q ≤ n by omega)]; exact h.2.1 q h1 (by omega)
  · rw [z_zI_old (show 17 ≤ n by omega)]; exact h.2.2 k hk
theorem mcI.put {I0 : zI} {J0 : zJ} {n f : Nat} {I : zI} {J : zJ} (h : mcI I0 J0 n I J) : mcI I0 J0 n (z_u I 17 f (nI 0)) J := by
  refine ⟨fun q hq => ⟨?_, ?_⟩, fun q h1 h2 => ?_, fun k hk => ?_⟩
  · rw [z_u_row (by omega)]; exact (h.1 q hq).1
  · exact (h.1 q hq).2
  · rw [z_u_row (by omega)]; exact h.2.1 q h1 h2
  · by_cases e : k = f
    · rw [e, z_u_same]; rfl
    · rw [z_u_col e]; exact h.2.2 k hk
theorem m_MCinit (d : Nat) (I : zI) (J : zJ) (hI : I 17 = fun _ => 0) : z_C yX4_init cX4_init 1 none (d + 1) [.ref 17] (z_new (z_b 16) 5 0) I J 19 13950 (fun r h' I' J' => r = none ∧ h' = z_s 0 ∧ mI s_0 I' J' ∧ ∀ q, q ≤ 16 → I' q = I q ∧ J' q = J q) := by
  rw [← z_36, z_m_first]
  refine z_C.of (by decide) (Nat.le_of_ble_eq_true rfl) fun K E X => ?_
  have g190 : ∀ I' J', mcI I J 36 I' J' → z_V K 190 [(0, .ref 17)] [] (z_m 36 25) I' J' 0 0 := by
    intro I' J' hi
    refine v_vret E X dX4_init_190 ⟨rfl, z_m_last, ⟨hi.2.2 0 (by decide), hi.2.2 1 (by decide), hi.2.2 2 (by decide), fun p h => absurd h (Nat.not_lt_zero p), fun p h => absurd h (Nat.not_lt_zero p), fun l _ => ?_, fun l _ => ?_, fun l k _ h => absurd h (Nat.not_lt_zero k), fun l _ => ?_, fun p h => absurd h (Nat.not_lt_zero p), fun p h => absurd h (Nat.not_lt_zero p)⟩, hi.1⟩
    · rw [hi.2.1 20 (by decide) (by decide)]; rfl
    · rw [hi.2.1 21 (by decide) (by decide)]; rfl
    · rw [hi.2.1 23 (by decide) (by decide)]; rfl
  have g182 : ∀ I' J', mcI I J 35 I' J' → z_V K 182 [(0, .ref 17)] [] (z_m 35 24) I' J' 1 6 := by
    intro I' J' hi
    refine v_aload_n E dX4_init_182 rfl ?_
    refine v_bipush (v := nI 6) E dX4_init_183 (by decide) ?_
    refine v_newI E dX4_init_185 (kc := 0) (ks := 0) (N := 6) rfl (by decide) ?_
    refine v_putR E f_X4_85 dX4_init_187 rfl rfl (fun _ => rfl) (fun _ => rfl) (by decide) ?_
    refine v_st (z_m_step (by decide) rfl rfl rfl) rfl rfl ?_
    exact g190 _ _ (mcI.new (by decide) hi)
  have g174 : ∀ I' J', mcI I J 34 I' J' → z_V K 174 [(0, .ref 17)] [] (z_m 34 23) I' J' 2 66 := by
    intro I' J' hi
    refine v_aload_n E dX4_init_174 rfl ?_
    refine v_bipush (v := nI 60) E dX4_init_175 (by decide) ?_
    refine v_newI E dX4_init_177 (kc := 1) (ks := 6) (N := 60) rfl (by decide) ?_
    refine v_putR E f_X4_82 dX4_init_179 rfl rfl (fun _ => rfl) (fun _ => rfl) (by decide) ?_
    refine v_st (z_m_step (by decide) rfl rfl rfl) rfl rfl ?_
    exact g182 _ _ (mcI.new (by decide) hi)
  have g165 : ∀ I' J', mcI I J 33 I' J' → z_V K 165 [(0, .ref 17)] [] (z_m 33 22) I' J' 3 1090 := by
    intro I' J' hi
    refine v_aload_n E dX4_init_165 rfl ?_
    refine v_sipush (v := nI 1024) E dX4_init_166 (by decide) ?_
    refine v_newZ E dX4_init_169 (kc := 2) (ks := 66) (N := 1024) rfl (by decide) ?_
    refine v_putR E f_X4_79 dX4_init_171 rfl rfl (fun _ => rfl) (fun _ => rfl) (by decide) ?_
    refine v_st (z_m_step (by decide) rfl rfl rfl) rfl rfl ?_
    exact g174 _ _ (mcI.new (by decide) hi)
  have g156 : ∀ I' J', mcI I J 32 I' J' → z_V K 156 [(0, .ref 17)] [] (z_m 32 21) I' J' 4 2114 := by
    intro I' J' hi
    refine v_aload_n E dX4_init_156 rfl ?_
    refine v_sipush (v := nI 1024) E dX4_init_157 (by decide) ?_
    refine v_newI E dX4_init_160 (kc := 3) (ks := 1090) (N := 1024) rfl (by decide) ?_
    refine v_putR E f_X4_76 dX4_init_162 rfl rfl (fun _ => rfl) (fun _ => rfl) (by decide) ?_
    refine v_st (z_m_step (by decide) rfl rfl rfl) rfl rfl ?_
    exact g165 _ _ (mcI.new (by decide) hi)
  have g151 : ∀ I' J', mcI I J 32 I' J' → z_V K 151 [(0, .ref 17)] [] (z_m 32 20) I' J' 4 2114 := by
    intro I' J' hi
    rw [z_m_skip (f := 20) rfl]
    refine v_aload_n E dX4_init_151 rfl ?_
    refine v_iconst (v := nI 0) E dX4_init_152 (by decide) ?_
    refine v_putI E f_X4_73 dX4_init_153 rfl rfl rfl rfl (by decide) ?_
    exact g156 _ _ (mcI.put hi)
  have g143 : ∀ I' J', mcI I J 31 I' J' → z_V K 143 [(0, .ref 17)] [] (z_m 31 19) I' J' 5 2214 := by
    intro I' J' hi
    refine v_aload_n E dX4_init_143 rfl ?_
    refine v_bipush (v := nI 100) E dX4_init_144 (by decide) ?_
    refine v_newI E dX4_init_146 (kc := 4) (ks := 2114) (N := 100) rfl (by decide) ?_
    refine v_putR E f_X4_70 dX4_init_148 rfl rfl (fun _ => rfl) (fun _ => rfl) (by decide) ?_
    refine v_st (z_m_step (by decide) rfl rfl rfl) rfl rfl ?_
    exact g151 _ _ (mcI.new (by decide) hi)
  have g135 : ∀ I' J', mcI I J 30 I' J' → z_V K 135 [(0, .ref 17)] [] (z_m 30 18) I' J' 6 2314 := by
    intro I' J' hi
    refine v_aload_n E dX4_init_135 rfl ?_
    refine v_bipush (v := nI 100) E dX4_init_136 (by decide) ?_
    refine v_newI E dX4_init_138 (kc := 5) (ks := 2214) (N := 100) rfl (by decide) ?_
    refine v_putR E f_X4_67 dX4_init_140 rfl rfl (fun _ => rfl) (fun _ => rfl) (by decide) ?_
    refine v_st (z_m_step (by decide) rfl rfl rfl) rfl rfl ?_
    exact g143 _ _ (mcI.new (by decide) hi)
  have g127 : ∀ I' J', mcI I J 29 I' J' → z_V K 127 [(0, .ref 17)] [] (z_m 29 17) I' J' 7 2324 := by
    intro I' J' hi
    refine v_aload_n E dX4_init_127 rfl ?_
    refine v_bipush (v := nI 10) E dX4_init_128 (by decide) ?_
    refine v_newI E dX4_init_130 (kc := 6) (ks := 2314) (N := 10) rfl (by decide) ?_
    refine v_putR E f_X4_64 dX4_init_132 rfl rfl (fun _ => rfl) (fun _ => rfl) (by decide) ?_
    refine v_st (z_m_step (by decide) rfl rfl rfl) rfl rfl ?_
    exact g135 _ _ (mcI.new (by decide) hi)
  have g118 : ∀ I' J', mcI I J 28 I' J' → z_V K 118 [(0, .ref 17)] [] (z_m 28 16) I' J' 8 3348 := by
    intro I' J' hi
    refine v_aload_n E dX4_init_118 rfl ?_
    refine v_sipush (v := nI 1024) E dX4_init_119 (by decide) ?_
    refine v_newZ E dX4_init_122 (kc := 7) (ks := 2324) (N := 1024) rfl (by decide) ?_
    refine v_putR E f_X4_61 dX4_init_124 rfl rfl (fun _ => rfl) (fun _ => rfl) (by decide) ?_
    refine v_st (z_m_step (by decide) rfl rfl rfl) rfl rfl ?_
    exact g127 _ _ (mcI.new (by decide) hi)
  have g109 : ∀ I' J', mcI I J 27 I' J' → z_V K 109 [(0, .ref 17)] [] (z_m 27 15) I' J' 9 13588 := by
    intro I' J' hi
    refine v_aload_n E dX4_init_109 rfl ?_
    refine v_sipush (v := nI 10240) E dX4_init_110 (by decide) ?_
    refine v_newZ E dX4_init_113 (kc := 8) (ks := 3348) (N := 10240) rfl (by decide) ?_
    refine v_putR E f_X4_58 dX4_init_115 rfl rfl (fun _ => rfl) (fun _ => rfl) (by decide) ?_
    refine v_st (z_m_step (by decide) rfl rfl rfl) rfl rfl ?_
    exact g118 _ _ (mcI.new (by decide) hi)
  have g104 : ∀ I' J', mcI I J 27 I' J' → z_V K 104 [(0, .ref 17)] [] (z_m 27 14) I' J' 9 13588 := by
    intro I' J' hi
    rw [z_m_skip (f := 14) rfl]
    refine v_aload_n E dX4_init_104 rfl ?_
    refine v_iconst (v := nI 0) E dX4_init_105 (by decide) ?_
    refine v_putI E f_X4_55 dX4_init_106 rfl rfl rfl rfl (by decide) ?_
    exact g109 _ _ (mcI.put hi)
  have g99 : ∀ I' J', mcI I J 27 I' J' → z_V K 99 [(0, .ref 17)] [] (z_m 27 13) I' J' 9 13588 := by
    intro I' J' hi
    rw [z_m_skip (f := 13) rfl]
    refine v_aload_n E dX4_init_99 rfl ?_
    refine v_iconst (v := nI 0) E dX4_init_100 (by decide) ?_
    refine v_putI E f_X4_52 dX4_init_101 rfl rfl rfl rfl (by decide) ?_
    exact g104 _ _ (mcI.put hi)
  have g91 : ∀ I' J', mcI I J 26 I' J' → z_V K 91 [(0, .ref 17)] [] (z_m 26 12) I' J' 10 13644 := by
    intro I' J' hi
    refine v_aload_n E dX4_init_91 rfl ?_
    refine v_bipush (v := nI 56) E dX4_init_92 (by decide) ?_
    refine v_newZ E dX4_init_94 (kc := 9) (ks := 13588) (N := 56) rfl (by decide) ?_
    refine v_putR E f_X4_49 dX4_init_96 rfl rfl (fun _ => rfl) (fun _ => rfl) (by decide) ?_
    refine v_st (z_m_step (by decide) rfl rfl rfl) rfl rfl ?_
    exact g99 _ _ (mcI.new (by decide) hi)
  have g83 : ∀ I' J', mcI I J 25 I' J' → z_V K 83 [(0, .ref 17)] [] (z_m 25 11) I' J' 11 13700 := by
    intro I' J' hi
    refine v_aload_n E dX4_init_83 rfl ?_
    refine v_bipush (v := nI 56) E dX4_init_84 (by decide) ?_
    refine v_newI E dX4_init_86 (kc := 10) (ks := 13644) (N := 56) rfl (by decide) ?_
    refine v_putR E f_X4_46 dX4_init_88 rfl rfl (fun _ => rfl) (fun _ => rfl) (by decide) ?_
    refine v_st (z_m_step (by decide) rfl rfl rfl) rfl rfl ?_
    exact g91 _ _ (mcI.new (by decide) hi)
  have g75 : ∀ I' J', mcI I J 24 I' J' → z_V K 75 [(0, .ref 17)] [] (z_m 24 10) I' J' 12 13740 := by
    intro I' J' hi
    refine v_aload_n E dX4_init_75 rfl ?_
    refine v_bipush (v := nI 40) E dX4_init_76 (by decide) ?_
    refine v_newI E dX4_init_78 (kc := 11) (ks := 13700) (N := 40) rfl (by decide) ?_
    refine v_putR E f_X4_43 dX4_init_80 rfl rfl (fun _ => rfl) (fun _ => rfl) (by decide) ?_
    refine v_st (z_m_step (by decide) rfl rfl rfl) rfl rfl ?_
    exact g83 _ _ (mcI.new (by decide) hi)
  have g67 : ∀ I' J', mcI I J 23 I' J' → z_V K 67 [(0, .ref 17)] [] (z_m 23 9) I' J' 13 13780 := by
    intro I' J' hi
    refine v_aload_n E dX4_init_67 rfl ?_
    refine v_bipush (v := nI 40) E dX4_init_68 (by decide) ?_
    refine v_newI E dX4_init_70 (kc := 12) (ks := 13740) (N := 40) rfl (by decide) ?_
    refine v_putR E f_X4_40 dX4_init_72 rfl rfl (fun _ => rfl) (fun _ => rfl) (by decide) ?_
    refine v_st (z_m_step (by decide) rfl rfl rfl) rfl rfl ?_
    exact g75 _ _ (mcI.new (by decide) hi)
  have g59 : ∀ I' J', mcI I J 22 I' J' → z_V K 59 [(0, .ref 17)] [] (z_m 22 8) I' J' 14 13790 := by
    intro I' J' hi
    refine v_aload_n E dX4_init_59 rfl ?_
    refine v_bipush (v := nI 10) E dX4_init_60 (by decide) ?_
    refine v_newZ E dX4_init_62 (kc := 13) (ks := 13780) (N := 10) rfl (by decide) ?_
    refine v_putR E f_X4_36 dX4_init_64 rfl rfl (fun _ => rfl) (fun _ => rfl) (by decide) ?_
    refine v_st (z_m_step (by decide) rfl rfl rfl) rfl rfl ?_
    exact g67 _ _ (mcI.new (by decide) hi)
  have g51 : ∀ I' J', mcI I J 21 I' J' → z_V K 51 [(0, .ref 17)] [] (z_m 21 7) I' J' 15 13910 := by
    intro I' J' hi
    refine v_aload_n E dX4_init_51 rfl ?_
    refine v_bipush (v := nI 120) E dX4_init_52 (by decide) ?_
    refine v_newI E dX4_init_54 (kc := 14) (ks := 13790) (N := 120) rfl (by decide) ?_
    refine v_putR E f_X4_33 dX4_init_56 rfl rfl (fun _ => rfl) (fun _ => rfl) (by decide) ?_
    refine v_st (z_m_step (by decide) rfl rfl rfl) rfl rfl ?_
    exact g59 _ _ (mcI.new (by decide) hi)
  have g43 : ∀ I' J', mcI I J 20 I' J' → z_V K 43 [(0, .ref 17)] [] (z_m 20 6) I' J' 16 13920 := by
    intro I' J' hi
    refine v_aload_n E dX4_init_43 rfl ?_
    refine v_bipush (v := nI 10) E dX4_init_44 (by decide) ?_
    refine v_newI E dX4_init_46 (kc := 15) (ks := 13910) (N := 10) rfl (by decide) ?_
    refine v_putR E f_X4_30 dX4_init_48 rfl rfl (fun _ => rfl) (fun _ => rfl) (by decide) ?_
    refine v_st (z_m_step (by decide) rfl rfl rfl) rfl rfl ?_
    exact g51 _ _ (mcI.new (by decide) hi)
  have g35 : ∀ I' J', mcI I J 19 I' J' → z_V K 35 [(0, .ref 17)] [] (z_m 19 5) I' J' 17 13930 := by
    intro I' J' hi
    refine v_aload_n E dX4_init_35 rfl ?_
    refine v_bipush (v := nI 10) E dX4_init_36 (by decide) ?_
    refine v_newI E dX4_init_38 (kc := 16) (ks := 13920) (N := 10) rfl (by decide) ?_
    refine v_putR E f_X4_27 dX4_init_40 rfl rfl (fun _ => rfl) (fun _ => rfl) (by decide) ?_
    refine v_st (z_m_step (by decide) rfl rfl rfl) rfl rfl ?_
    exact g43 _ _ (mcI.new (by decide) hi)
  have g27 : ∀ I' J', mcI I J 18 I' J' → z_V K 27 [(0, .ref 17)] [] (z_m 18 4) I' J' 18 13940 := by
    intro I' J' hi
    refine v_aload_n E dX4_init_27 rfl ?_
    refine v_bipush (v := nI 10) E dX4_init_28 (by decide) ?_
    refine v_newI E dX4_init_30 (kc := 17) (ks := 13930) (N := 10) rfl (by decide) ?_
    refine v_putR E f_X4_23 dX4_init_32 rfl rfl (fun _ => rfl) (fun _ => rfl) (by decide) ?_
    refine v_st (z_m_step (by decide) rfl rfl rfl) rfl rfl ?_
    exact g35 _ _ (mcI.new (by decide) hi)
  have g19 : ∀ I' J', mcI I J 17 I' J' → z_V K 19 [(0, .ref 17)] [] (z_m 17 3) I' J' 19 13950 := by
    intro I' J' hi
    refine v_aload_n E dX4_init_19 rfl ?_
    refine v_bipush (v := nI 10) E dX4_init_20 (by decide) ?_
    refine v_newJ E dX4_init_22 (kc := 18) (ks := 13940) (N := 10) rfl (by decide) ?_
    refine v_putR E f_X4_19 dX4_init_24 rfl rfl (fun _ => rfl) (fun _ => rfl) (by decide) ?_
    refine v_st (z_m_step (by decide) rfl rfl rfl) rfl rfl ?_
    exact g27 _ _ (mcI.new (by decide) hi)
  have g14 : ∀ I' J', mcI I J 17 I' J' → z_V K 14 [(0, .ref 17)] [] (z_m 17 2) I' J' 19 13950 := by
    intro I' J' hi
    rw [z_m_skip (f := 2) rfl]
    refine v_aload_n E dX4_init_14 rfl ?_
    refine v_iconst (v := nI 0) E dX4_init_15 (by decide) ?_
    refine v_putI E f_X4_16 dX4_init_16 rfl rfl rfl rfl (by decide) ?_
    exact g19 _ _ (mcI.put hi)
  have g9 : ∀ I' J', mcI I J 17 I' J' → z_V K 9 [(0, .ref 17)] [] (z_m 17 1) I' J' 19 13950 := by
    intro I' J' hi
    rw [z_m_skip (f := 1) rfl]
    refine v_aload_n E dX4_init_9 rfl ?_
    refine v_iconst (v := nI 0) E dX4_init_10 (by decide) ?_
    refine v_putI E f_X4_13 dX4_init_11 rfl rfl rfl rfl (by decide) ?_
    exact g14 _ _ (mcI.put hi)
  have g4 : ∀ I' J', mcI I J 17 I' J' → z_V K 4 [(0, .ref 17)] [] (z_m 17 0) I' J' 19 13950 := by
    intro I' J' hi
    rw [z_m_skip (f := 0) rfl]
    refine v_aload_n E dX4_init_4 rfl ?_
    refine v_iconst (v := nI 0) E dX4_init_5 (by decide) ?_
    refine v_putI E f_X4_7 dX4_init_6 rfl rfl rfl rfl (by decide) ?_
    exact g9 _ _ (mcI.put hi)
  refine v_aload_n E dX4_init_0 rfl ?_
  refine v_objInit E dX4_init_1 k_X4_1 (Nat.le_of_ble_eq_true rfl) ?_
  exact g4 I J ⟨fun _ _ => ⟨rfl, rfl⟩, fun q h1 h2 => absurd h2 (by omega), fun k _ => by rw [hI]⟩
