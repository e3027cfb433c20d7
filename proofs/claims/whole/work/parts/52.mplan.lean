/-! THE MODEL: plans, the bits of a span -/
def x_low (p : Nat) : Nat := match p with
  | 0 => 1431655765
  | 1 => 858993459
  | 2 => 252645135
  | 3 => 16711935
  | _ => 65535
def x_sw (a p : Nat) : Nat := (a / 2 ^ 2 ^ p &&& x_low p) ||| ((a &&& x_low p) * 2 ^ 2 ^ p)
theorem x_low_ok : ∀ p, p < 5 → ∀ j, j < 32 → ((x_low p).testBit j = true ∧ j ^^^ 2 ^ p = j + 2 ^ p ∧ (2 ^ p ≤ j → (x_low p).testBit (j - 2 ^ p) = false)) ∨ ((x_low p).testBit j = false ∧ 2 ^ p ≤ j ∧ (x_low p).testBit (j - 2 ^ p) = true ∧ j ^^^ 2 ^ p = j - 2 ^ p) := by decide +kernel
theorem x_sw_bit {p : Nat} (hp : p < 5) (a : Nat) {j : Nat} (hj : j < 32) : (x_sw a p).testBit j = a.testBit (j ^^^ 2 ^ p) := by
  unfold x_sw
  rw [Nat.testBit_or, Nat.testBit_and, Nat.testBit_div_two_pow, Nat.testBit_mul_two_pow, Nat.testBit_and]
  rcases x_low_ok p hp j hj with ⟨h1, h2, h3⟩ | ⟨h1, h2, h3, h4⟩
  · rw [h1, h2, Bool.and_true]
    by_cases e : 2 ^ p ≤ j
    · rw [h3 e, Bool.and_false, Bool.and_false, Bool.or_false]
    · rw [decide_eq_false e, Bool.false_and, Bool.or_false]
  · rw [h1, h3, h4, Bool.and_false, Bool.and_true, Bool.false_or, decide_eq_true h2, Bool.true_and]
theorem x_low_lt : ∀ p, p < 5 → x_low p < 2 ^ (32 - 2 ^ p) ∧ 2 ^ p < 32 := by decide +kernel
theorem x_sw_lt {p : Nat} (hp : p < 5) (a : Nat) : x_sw a p < 2 ^ 32 := by
  obtain ⟨h1, h2⟩ := x_low_lt p hp
  have h3 : 2 ^ (32 - 2 ^ p) * 2 ^ 2 ^ p = 2 ^ 32 := by rw [← Nat.pow_add]; congr 1; omega
  have h4 : a &&& x_low p < 2 ^ (32 - 2 ^ p) := Nat.lt_of_le_of_lt Nat.and_le_right h1
  unfold x_sw
  refine q_or_lt ?_ ?_
  · refine Nat.lt_of_le_of_lt Nat.and_le_right (Nat.lt_of_lt_of_le h1 (Nat.pow_le_pow_right (by decide) (Nat.sub_le 32 (2 ^ p))))
  · rw [← h3]
    exact Nat.mul_lt_mul_of_pos_right h4 (Nat.two_pow_pos _)
def x_mv (n m : Nat) : Nat → Nat
  | 0 => n
  | p + 1 => if m.testBit p then x_sw (x_mv n m p) p else x_mv n m p
theorem x_mv_lt {n m : Nat} (hn : n < 2 ^ 32) : ∀ p, p ≤ 5 → x_mv n m p < 2 ^ 32
  | 0, _ => hn
  | p + 1, h => by
    simp only [x_mv]
    split
    · exact x_sw_lt (by omega) _
    · exact x_mv_lt hn p (by omega)
theorem x_mv_bit (n m : Nat) : ∀ p, p ≤ 5 → ∀ j, j < 32 → (x_mv n m p).testBit j = n.testBit (j ^^^ l_to (fun p => 2 ^ p) m p)
  | 0, _, j, _ => by
    show n.testBit j = n.testBit (j ^^^ 0)
    rw [Nat.xor_zero]
  | p + 1, h, j, hj => by
    have h2 : 2 ^ p < 2 ^ 5 := Nat.pow_lt_pow_right (by decide) (by omega)
    simp only [x_mv, l_to]
    by_cases e : m.testBit p = true
    · rw [if_pos e, if_pos e, x_sw_bit (by omega) _ hj, x_mv_bit n m p (by omega) _ (q_xor_lt (k := 5) hj h2)]
      congr 1
      rw [Nat.xor_assoc, Nat.xor_comm (2 ^ p)]
    · rw [if_neg e, if_neg e]
      exact x_mv_bit n m p (by omega) j hj
def x_w (n m : Nat) : Nat := n ||| x_mv n m 5
theorem x_w_bit {n m : Nat} (hm : m < 32) {j : Nat} (hj : j < 32) : (x_w n m).testBit j = (n.testBit j || n.testBit (j ^^^ m)) := by
  unfold x_w
  rw [Nat.testBit_or, x_mv_bit n m 5 (Nat.le_refl _) j hj, l_to_pow, Nat.mod_eq_of_lt hm]
/-- the masks below 32 that rows make, as a set -/
def sB (rs : List Nat) : Nat := o_m (l_sp rs) 32
theorem sB_lt (rs : List Nat) : sB rs < 2 ^ 32 := o_m_lt _ _
theorem sB_with (rs : List Nat) {m : Nat} (hm : m < 32) : x_w (sB rs) m = sB (m :: rs) := by
  have h1 : x_w (sB rs) m < 2 ^ 32 := q_or_lt (sB_lt rs) (x_mv_lt (sB_lt rs) 5 (Nat.le_refl _))
  apply Nat.eq_of_testBit_eq
  intro j
  by_cases hj : j < 32
  · have hx : j ^^^ m < 32 := q_xor_lt (k := 5) hj hm
    rw [x_w_bit hm hj]
    unfold sB
    rw [o_m_bit, o_m_bit, o_m_bit, decide_eq_true hj, decide_eq_true hx]
    rfl
  · rw [q_hi h1 (by omega), q_hi (sB_lt _) (by omega)]
theorem mm_with (d nl : Nat) (I : zI) (J : zJ) (n : Nat) (hn : n < 2 ^ 32) (m : Nat) (hm : m < 32) : z_C yX4_with cX4_with 7 (some .int) d [.ref 17, .int (nI n), .int (nI m)] (z_s nl) I J 0 0 (z_q (some (.int (nI (x_w n m)))) (z_s nl) I J) := by
  refine z_C.of (by decide) (Nat.le_of_ble_eq_true rfl) fun K E X => ?_
  refine v_iload_n E dX4_with_0 rfl ?_
  refine v_istore_n E dX4_with_1 (by decide) ?_
  refine v_iconst (v := nI 0) E dX4_with_2 (by decide) ?_
  refine v_istore E dX4_with_3 (by decide) ?_
  have loop : ∀ p, p ≤ 5 → ∀ lr, z_V K 5 ([(0, .ref 17), (1, .int (nI n)), (2, .int (nI m)), (3, .int (nI (x_mv n m p))), (4, .int (nI p))] ++ lr) [] (z_s nl) I J 0 0 := by
    refine z_for 5 ?_ (fun p hp ih => ?_)
    · intro lr
      refine v_ls (ls2 := [(0, .ref 17), (1, .int (nI n)), (2, .int (nI m)), (3, .int (nI (x_mv n m 5))), (4, .int (nI 5))]) (by intro q hq; simp only [List.mem_cons, List.not_mem_nil, or_false] at hq; rcases hq with rfl | rfl | rfl | rfl | rfl <;> rfl) ?_
      refine v_iload E dX4_with_5 rfl ?_
      refine v_iconst (v := nI 5) E dX4_with_7 (by decide) ?_
      refine v_icmp_geN (tgt := 100) E dX4_with_8 (by decide) (by omega) (by omega) (fun c => ?_) (fun c => ?_)
      · refine v_iload_n E dX4_with_100 rfl ?_
        refine v_iload_n E dX4_with_101 rfl ?_
        refine v_iorN E dX4_with_102 ?_
        exact v_iret E X dX4_with_103 z_qq
      · exact absurd c (by omega)
    · intro lr
      refine v_ls (ls2 := [(0, .ref 17), (1, .int (nI n)), (2, .int (nI m)), (3, .int (nI (x_mv n m p))), (4, .int (nI p))]) (by intro q hq; simp only [List.mem_cons, List.not_mem_nil, or_false] at hq; rcases hq with rfl | rfl | rfl | rfl | rfl <;> rfl) ?_
      have hp32 := (x_low_lt p hp).2
      have hmv := x_mv_lt (m := m) hn p (by omega)
      have e : x_mv n m (p + 1) = if m.testBit p then x_sw (x_mv n m p) p else x_mv n m p := rfl
      have fin : m.testBit p = true → z_V K 76 [(0, .ref 17), (1, .int (nI n)), (2, .int (nI m)), (3, .int (nI (x_mv n m p))), (4, .int (nI p)), (5, .int (nI (2 ^ p)))] [.int (nI (x_low p))] (z_s nl) I J 0 0 := by
        intro hb
        rw [if_pos hb] at e
        refine v_istore E dX4_with_76 (by decide) ?_
        refine v_iload_n E dX4_with_78 rfl ?_
        refine v_iload E dX4_with_79 rfl ?_
        refine v_iushrN E dX4_with_81 hmv hp32 ?_
        refine v_iload E dX4_with_82 rfl ?_
        refine v_iandN E dX4_with_84 ?_
        refine v_iload_n E dX4_with_85 rfl ?_
        refine v_iload E dX4_with_86 rfl ?_
        refine v_iandN E dX4_with_88 ?_
        refine v_iload E dX4_with_89 rfl ?_
        refine v_ishlN E dX4_with_91 hp32 ?_
        refine v_iorN E dX4_with_92 ?_
        refine v_istore_n E dX4_with_93 (by decide) ?_
        refine v_inc E dX4_with_94 rfl (by decide) ?_
        refine v_goto (tgt := 5) E dX4_with_97 (by decide) ?_
        have i1 := ih [(5, .int (nI (2 ^ p))), (6, .int (nI (x_low p)))]
        rw [e] at i1
        exact i1
      have sel : m.testBit p = true → z_V K 29 [(0, .ref 17), (1, .int (nI n)), (2, .int (nI m)), (3, .int (nI (x_mv n m p))), (4, .int (nI p)), (5, .int (nI (2 ^ p)))] [] (z_s nl) I J 0 0 := by
        intro hb
        have f := fin hb
        refine v_iload E dX4_with_29 rfl ?_
        refine v_iconst (v := nI 1) E dX4_with_31 (by decide) ?_
        refine v_icmp_neN (tgt := 40) E dX4_with_32 (by decide) (by omega) (by omega) (fun c0 => ?_) (fun c0 => ?_)
        · refine v_iload E dX4_with_40 rfl ?_
          refine v_iconst (v := nI 2) E dX4_with_42 (by decide) ?_
          refine v_icmp_neN (tgt := 51) E dX4_with_43 (by decide) (by omega) (by omega) (fun c1 => ?_) (fun c1 => ?_)
          · refine v_iload E dX4_with_51 rfl ?_
            refine v_iconst (v := nI 4) E dX4_with_53 (by decide) ?_
            refine v_icmp_neN (tgt := 62) E dX4_with_54 (by decide) (by omega) (by omega) (fun c2 => ?_) (fun c2 => ?_)
            · refine v_iload E dX4_with_62 rfl ?_
              refine v_bipush (v := nI 8) E dX4_with_64 (by decide) ?_
              refine v_icmp_neN (tgt := 74) E dX4_with_66 (by decide) (by omega) (by omega) (fun c3 => ?_) (fun c3 => ?_)
              · refine v_ldc E dX4_with_74 n_X4_171 ?_
                refine v_top (x2 := nI (x_low p)) ?_ f
                rcases (by omega : p = 0 ∨ p = 1 ∨ p = 2 ∨ p = 3 ∨ p = 4) with z | z | z | z | z <;> subst z <;> first | exact absurd rfl c0 | exact absurd rfl c1 | exact absurd rfl c2 | exact absurd rfl c3 | decide
              · refine v_ldc E dX4_with_69 n_X4_170 ?_
                refine v_goto (tgt := 76) E dX4_with_71 (by decide) ?_
                refine v_top (x2 := nI (x_low p)) ?_ f
                rcases (by omega : p = 0 ∨ p = 1 ∨ p = 2 ∨ p = 3 ∨ p = 4) with z | z | z | z | z <;> subst z <;> first | decide | exact absurd c3 (by decide)
            · refine v_ldc E dX4_with_57 n_X4_169 ?_
              refine v_goto (tgt := 76) E dX4_with_59 (by decide) ?_
              refine v_top (x2 := nI (x_low p)) ?_ f
              rcases (by omega : p = 0 ∨ p = 1 ∨ p = 2 ∨ p = 3 ∨ p = 4) with z | z | z | z | z <;> subst z <;> first | decide | exact absurd c2 (by decide)
          · refine v_ldc E dX4_with_46 n_X4_168 ?_
            refine v_goto (tgt := 76) E dX4_with_48 (by decide) ?_
            refine v_top (x2 := nI (x_low p)) ?_ f
            rcases (by omega : p = 0 ∨ p = 1 ∨ p = 2 ∨ p = 3 ∨ p = 4) with z | z | z | z | z <;> subst z <;> first | decide | exact absurd c1 (by decide)
        · refine v_ldc E dX4_with_35 n_X4_167 ?_
          refine v_goto (tgt := 76) E dX4_with_37 (by decide) ?_
          refine v_top (x2 := nI (x_low p)) ?_ f
          rcases (by omega : p = 0 ∨ p = 1 ∨ p = 2 ∨ p = 3 ∨ p = 4) with z | z | z | z | z <;> subst z <;> first | decide | exact absurd c0 (by decide)
      refine v_iload E dX4_with_5 rfl ?_
      refine v_iconst (v := nI 5) E dX4_with_7 (by decide) ?_
      refine v_icmp_geN (tgt := 100) E dX4_with_8 (by decide) (by omega) (by omega) (fun c => ?_) (fun c => ?_)
      · exact absurd c (by omega)
      · refine v_iload_n E dX4_with_11 rfl ?_
        refine v_iload E dX4_with_12 rfl ?_
        refine v_ishrN E dX4_with_14 (by omega) (by omega) ?_
        refine v_iconst (v := nI 1) E dX4_with_15 (by decide) ?_
        refine v_iandN E dX4_with_16 ?_
        refine v_tb ?_
        refine v_if_neB (tgt := 23) E dX4_with_17 (by decide)  (fun c2 => ?_) (fun c2 => ?_)
        · refine v_iconst (v := nI 1) E dX4_with_23 (by decide) ?_
          refine v_iload E dX4_with_24 rfl ?_
          refine v_ishlN E dX4_with_26 (by omega) ?_
          refine v_p2 ?_
          refine v_istore E dX4_with_27 (by decide) ?_
          exact sel c2
        · rw [c2] at e
          refine v_goto (tgt := 94) E dX4_with_20 (by decide) ?_
          refine v_inc E dX4_with_94 rfl (by decide) ?_
          refine v_goto (tgt := 5) E dX4_with_97 (by decide) ?_
          have i1 := ih []
          rw [e] at i1
          exact i1
  exact loop 0 (by omega) []
theorem mm_servedBy (d nl : Nat) (s : zS) (hw : s_wf s) (h5 : s_np s ≤ 5) (I : zI) (J : zJ) (hm : mI s I J) (l : Nat) (hl : l < s_nl s) (bits : Nat) (hbt : bits < 2 ^ 32) : z_C yX4_servedBy cX4_servedBy 8 (some .boolean) (d + 1) [.ref 17, .int (nI l), .int (nI bits)] (z_s nl) I J 0 0 (z_q (some (.int (nI (b_sv (s_kd s l) (s_hp s l) (s_wt s l) (s_np s) (fun p => bits.testBit (2 ^ p))).toNat))) (z_s nl) I J) := by
  have hhp := p2_10 hw.1 (s_hp_lt hw l)
  obtain ⟨m1, m2, m3, m4, m5, m6, m7, m8, m9, m10, m11⟩ := hm
  obtain ⟨w1, w2, w3, w4, w5, w6, w7, w8, w9, w10⟩ := hw
  have h12 := w6 l
  have hk := w4 l
  have hwt := p2_10 w1 (w5 l)
  have hp2 : 2 ^ s_np s ≤ 1024 := Nat.pow_le_pow_right (n := 2) (by decide) w1
  have hp0 := Nat.two_pow_pos (s_np s)
  generalize hv : b_sv (s_kd s l) (s_hp s l) (s_wt s l) (s_np s) (fun p => bits.testBit (2 ^ p)) = v
  unfold b_sv at hv
  refine z_C.of (by decide) (Nat.le_of_ble_eq_true rfl) fun K E X => ?_
  have loop2 : (s_kd s l = 2 → s_hp s l ≠ 2 ^ s_np s - 1) → ∀ p, p ≤ s_np s → z_V K 89 [(0, .ref 17), (1, .int (nI l)), (2, .int (nI bits)), (3, .int (nI (s_hp s l))), (4, .int (nI (b_all (fun p => bits.testBit (2 ^ p) || !(s_wt s l).testBit p) p).toNat)), (5, .int (nI (b_any (fun p => bits.testBit (2 ^ p) && !(s_hp s l).testBit p) p).toNat)), (6, .int (nI p))] [] (z_s nl) I J 0 0 := by
    intro hne
    refine z_for (s_np s) ?_ (fun p hp ih => ?_)
    · refine v_iload E dX4_servedBy_89 rfl ?_
      refine v_aload_n E dX4_servedBy_91 rfl ?_
      refine v_getIE E f_X4_7 dX4_servedBy_92 rfl rfl m1 ?_
      refine v_icmp_geN (tgt := 180) E dX4_servedBy_95 (by decide) (by omega) (by omega) (fun c => ?_) (fun c => ?_)
      · refine v_aload_n E dX4_servedBy_180 rfl ?_
        refine v_getR E f_X4_23 dX4_servedBy_181 rfl rfl rfl ?_
        refine v_iload_n E dX4_servedBy_184 rfl ?_
        refine v_ialoadE E dX4_servedBy_185 rfl rfl (by omega) (by decide) (m5 l hl) ?_
        refine v_iconst (v := nI 2) E dX4_servedBy_186 (by decide) ?_
        refine v_icmp_neN (tgt := 195) E dX4_servedBy_187 (by decide) (by omega) (by omega) (fun c2 => ?_) (fun c2 => ?_)
        · rw [if_neg c2] at hv
          refine v_iload E dX4_servedBy_195 rfl ?_
          exact v_zret E X dX4_servedBy_197 (q_b01 _) (z_qi (by rw [hv]))
        · rw [if_pos c2, decide_eq_false (hne c2), Bool.false_or] at hv
          refine v_iload E dX4_servedBy_190 rfl ?_
          refine v_goto (tgt := 197) E dX4_servedBy_192 (by decide) ?_
          exact v_zret E X dX4_servedBy_197 (q_b01 _) (z_qi (by rw [hv]))
      · exact absurd c (by omega)
    · have hpp : 2 ^ p < 1024 := p2_10 w1 (Nat.pow_lt_pow_right (by decide) hp)
      refine v_iload E dX4_servedBy_89 rfl ?_
      refine v_aload_n E dX4_servedBy_91 rfl ?_
      refine v_getIE E f_X4_7 dX4_servedBy_92 rfl rfl m1 ?_
      refine v_icmp_geN (tgt := 180) E dX4_servedBy_95 (by decide) (by omega) (by omega) (fun c => ?_) (fun c => ?_)
      · exact absurd c (by omega)
      · have eA : b_all (fun p => bits.testBit (2 ^ p) || !(s_wt s l).testBit p) (p + 1) = (b_all (fun p => bits.testBit (2 ^ p) || !(s_wt s l).testBit p) p && (bits.testBit (2 ^ p) || !(s_wt s l).testBit p)) := rfl
        have eN : b_any (fun p => bits.testBit (2 ^ p) && !(s_hp s l).testBit p) (p + 1) = (b_any (fun p => bits.testBit (2 ^ p) && !(s_hp s l).testBit p) p || (bits.testBit (2 ^ p) && !(s_hp s l).testBit p)) := rfl
        rw [eA, eN] at ih
        generalize hA : b_all (fun p => bits.testBit (2 ^ p) || !(s_wt s l).testBit p) p = bA at ih ⊢
        generalize hN : b_any (fun p => bits.testBit (2 ^ p) && !(s_hp s l).testBit p) p = bN at ih ⊢
        generalize hI : bits.testBit (2 ^ p) = bI at ih
        have t3 : ∀ b : Bool, b = (bA && (bI || !(s_wt s l).testBit p)) → z_V K 172 [(0, .ref 17), (1, .int (nI l)), (2, .int (nI bits)), (3, .int (nI (s_hp s l))), (4, .int (nI bA.toNat)), (5, .int (nI (bN || (bI && !(s_hp s l).testBit p)).toNat)), (6, .int (nI p)), (7, .int (nI bI.toNat))] [.int (nI b.toNat)] (z_s nl) I J 0 0 := by
          rintro b rfl
          refine v_istore E dX4_servedBy_172 (by decide) ?_
          refine v_inc E dX4_servedBy_174 rfl (by decide) ?_
          refine v_goto (tgt := 89) E dX4_servedBy_177 (by decide) ?_
          refine v_ls (ls2 := [(0, .ref 17), (1, .int (nI l)), (2, .int (nI bits)), (3, .int (nI (s_hp s l))), (4, .int (nI (bA && (bI || !(s_wt s l).testBit p)).toNat)), (5, .int (nI (bN || (bI && !(s_hp s l).testBit p)).toNat)), (6, .int (nI (p + 1)))]) (by intro q hq; simp only [List.mem_cons, List.not_mem_nil, or_false] at hq; rcases hq with rfl | rfl | rfl | rfl | rfl | rfl | rfl <;> rfl) ?_
          exact ih
        have t2 : ∀ b : Bool, b = (bN || (bI && !(s_hp s l).testBit p)) → z_V K 141 [(0, .ref 17), (1, .int (nI l)), (2, .int (nI bits)), (3, .int (nI (s_hp s l))), (4, .int (nI bA.toNat)), (5, .int (nI bN.toNat)), (6, .int (nI p)), (7, .int (nI bI.toNat))] [.int (nI b.toNat)] (z_s nl) I J 0 0 := by
          rintro b rfl
          refine v_istore E dX4_servedBy_141 (by decide) ?_
          refine v_iload E dX4_servedBy_143 rfl ?_
          refine v_if_eqB (tgt := 171) E dX4_servedBy_145 (by decide)  (fun k1 => ?_) (fun k1 => ?_)
          · refine v_iconst (v := nI 0) E dX4_servedBy_171 (by decide) ?_
            exact t3 false (by rw [k1]; rfl)
          · refine v_iload E dX4_servedBy_148 rfl ?_
            refine v_if_neB (tgt := 167) E dX4_servedBy_150 (by decide)  (fun k2 => ?_) (fun k2 => ?_)
            · refine v_iconst (v := nI 1) E dX4_servedBy_167 (by decide) ?_
              refine v_goto (tgt := 172) E dX4_servedBy_168 (by decide) ?_
              exact t3 true (by rw [k1, k2]; rfl)
            · refine v_aload_n E dX4_servedBy_153 rfl ?_
              refine v_getR E f_X4_27 dX4_servedBy_154 rfl rfl rfl ?_
              refine v_iload_n E dX4_servedBy_157 rfl ?_
              refine v_ialoadE E dX4_servedBy_158 rfl rfl (by omega) (by decide) (m6 l (by omega)) ?_
              refine v_iload E dX4_servedBy_159 rfl ?_
              refine v_ishrN E dX4_servedBy_161 (by omega) (by omega) ?_
              refine v_iconst (v := nI 1) E dX4_servedBy_162 (by decide) ?_
              refine v_iandN E dX4_servedBy_163 ?_
              refine v_tb ?_
              refine v_if_neB (tgt := 171) E dX4_servedBy_164 (by decide)  (fun k3 => ?_) (fun k3 => ?_)
              · refine v_iconst (v := nI 0) E dX4_servedBy_171 (by decide) ?_
                exact t3 false (by rw [k1, k2, k3]; rfl)
              · refine v_iconst (v := nI 1) E dX4_servedBy_167 (by decide) ?_
                refine v_goto (tgt := 172) E dX4_servedBy_168 (by decide) ?_
                exact t3 true (by rw [k1, k2, k3]; rfl)
        have t1 : ∀ b : Bool, b = bI → z_V K 115 [(0, .ref 17), (1, .int (nI l)), (2, .int (nI bits)), (3, .int (nI (s_hp s l))), (4, .int (nI bA.toNat)), (5, .int (nI bN.toNat)), (6, .int (nI p))] [.int (nI b.toNat)] (z_s nl) I J 0 0 := by
          rintro b rfl
          refine v_istore E dX4_servedBy_115 (by decide) ?_
          refine v_iload E dX4_servedBy_117 rfl ?_
          refine v_if_neB (tgt := 136) E dX4_servedBy_119 (by decide)  (fun k1 => ?_) (fun k1 => ?_)
          · refine v_iconst (v := nI 1) E dX4_servedBy_136 (by decide) ?_
            refine v_goto (tgt := 141) E dX4_servedBy_137 (by decide) ?_
            exact t2 true (by rw [k1]; rfl)
          · refine v_iload E dX4_servedBy_122 rfl ?_
            refine v_if_eqB (tgt := 140) E dX4_servedBy_124 (by decide)  (fun k2 => ?_) (fun k2 => ?_)
            · refine v_iconst (v := nI 0) E dX4_servedBy_140 (by decide) ?_
              exact t2 false (by rw [k1, k2]; rfl)
            · refine v_iload_n E dX4_servedBy_127 rfl ?_
              refine v_iload E dX4_servedBy_128 rfl ?_
              refine v_ishrN E dX4_servedBy_130 (by omega) (by omega) ?_
              refine v_iconst (v := nI 1) E dX4_servedBy_131 (by decide) ?_
              refine v_iandN E dX4_servedBy_132 ?_
              refine v_tb ?_
              refine v_if_neB (tgt := 140) E dX4_servedBy_133 (by decide)  (fun k3 => ?_) (fun k3 => ?_)
              · refine v_iconst (v := nI 0) E dX4_servedBy_140 (by decide) ?_
                exact t2 false (by rw [k1, k2, k3]; rfl)
              · refine v_iconst (v := nI 1) E dX4_servedBy_136 (by decide) ?_
                refine v_goto (tgt := 141) E dX4_servedBy_137 (by decide) ?_
                exact t2 true (by rw [k1, k2, k3]; rfl)
        have h32 : 2 ^ p < 32 := Nat.lt_of_lt_of_le (Nat.pow_lt_pow_right (n := s_np s) (by decide) hp) (Nat.pow_le_pow_right (n := 2) (by decide) h5)
        refine v_iload_n E dX4_servedBy_98 rfl ?_
        refine v_iconst (v := nI 1) E dX4_servedBy_99 (by decide) ?_
        refine v_iload E dX4_servedBy_100 rfl ?_
        refine v_ishlN E dX4_servedBy_102 (by omega) ?_
        refine v_p2 ?_
        refine v_iushrN E dX4_servedBy_103 hbt h32 ?_
        refine v_iconst (v := nI 1) E dX4_servedBy_104 (by decide) ?_
        refine v_iandN E dX4_servedBy_105 ?_
        refine v_tb ?_
        rw [hI]
        refine v_iconst (v := nI 1) E dX4_servedBy_106 (by decide) ?_
        refine v_icmp_neB (tgt := 114) E dX4_servedBy_107 (by decide)  (fun k1 => ?_) (fun k1 => ?_)
        · refine v_iconst (v := nI 0) E dX4_servedBy_114 (by decide) ?_
          exact t1 false k1.symm
        · refine v_iconst (v := nI 1) E dX4_servedBy_110 (by decide) ?_
          refine v_goto (tgt := 115) E dX4_servedBy_111 (by decide) ?_
          exact t1 true k1.symm
  have mid : (s_kd s l = 2 → s_hp s l ≠ 2 ^ s_np s - 1) → z_V K 80 [(0, .ref 17), (1, .int (nI l)), (2, .int (nI bits)), (3, .int (nI (s_hp s l))), (4, .int (nI (s_hm s l)))] [] (z_s nl) I J 0 0 := by
    intro hne
    refine v_iconst (v := nI 1) E dX4_servedBy_80 (by decide) ?_
    refine v_istore E dX4_servedBy_81 (by decide) ?_
    refine v_iconst (v := nI 0) E dX4_servedBy_83 (by decide) ?_
    refine v_istore E dX4_servedBy_84 (by decide) ?_
    refine v_iconst (v := nI 0) E dX4_servedBy_86 (by decide) ?_
    refine v_istore E dX4_servedBy_87 (by decide) ?_
    exact loop2 hne 0 (by omega)
  have loop1 : ∀ k, k ≤ s_hm s l → z_V K 5 [(0, .ref 17), (1, .int (nI l)), (2, .int (nI bits)), (3, .int (nI (q_hp (s_hs s l) k))), (4, .int (nI k))] [] (z_s nl) I J 0 0 := by
    refine z_for (s_hm s l) ?_ (fun k hk1 ih => ?_)
    · refine v_iload E dX4_servedBy_5 rfl ?_
      refine v_aload_n E dX4_servedBy_7 rfl ?_
      refine v_getR E f_X4_30 dX4_servedBy_8 rfl rfl rfl ?_
      refine v_iload_n E dX4_servedBy_11 rfl ?_
      refine v_ialoadE E dX4_servedBy_12 rfl rfl (by omega) (by decide) (m7 l (by omega)) ?_
      refine v_icmp_geN (tgt := 56) E dX4_servedBy_13 (by decide) (by omega) (by omega) (fun c => ?_) (fun c => ?_)
      · refine v_aload_n E dX4_servedBy_56 rfl ?_
        refine v_getR E f_X4_23 dX4_servedBy_57 rfl rfl rfl ?_
        refine v_iload_n E dX4_servedBy_60 rfl ?_
        refine v_ialoadE E dX4_servedBy_61 rfl rfl (by omega) (by decide) (m5 l hl) ?_
        refine v_iconst (v := nI 2) E dX4_servedBy_62 (by decide) ?_
        refine v_icmp_neN (tgt := 80) E dX4_servedBy_63 (by decide) (by omega) (by omega) (fun c2 => ?_) (fun c2 => ?_)
        · exact mid (fun z => absurd z c2)
        · refine v_iload_n E dX4_servedBy_66 rfl ?_
          refine v_iconst (v := nI 1) E dX4_servedBy_67 (by decide) ?_
          refine v_aload_n E dX4_servedBy_68 rfl ?_
          refine v_getIE E f_X4_7 dX4_servedBy_69 rfl rfl m1 ?_
          refine v_ishlN E dX4_servedBy_72 (by omega) ?_
          refine v_p2 ?_
          refine v_iconst (v := nI 1) E dX4_servedBy_73 (by decide) ?_
          refine v_isubN E dX4_servedBy_74 (by omega) ?_
          have hq : s_hp s l = q_hp (s_hs s l) (s_hm s l) := rfl
          refine v_icmp_neN (tgt := 80) E dX4_servedBy_75 (by decide) (by rw [← hq]; omega) (by omega) (fun c3 => ?_) (fun c3 => ?_)
          · exact mid (fun _ => c3)
          · refine v_iconst (v := nI 1) E dX4_servedBy_78 (by decide) ?_
            have : v = true := by
              rw [← hv, if_pos c2, decide_eq_true (show s_hp s l = _ from c3)]
              rfl
            exact v_zret E X dX4_servedBy_79 (by first | exact Or.inl rfl | exact Or.inr rfl) (z_qi (by rw [this]; rfl))
      · exact absurd c (by omega)
    · have hb := w7 l k hk1
      have hb1 := p2_10 w1 hb.2
      refine v_iload E dX4_servedBy_5 rfl ?_
      refine v_aload_n E dX4_servedBy_7 rfl ?_
      refine v_getR E f_X4_30 dX4_servedBy_8 rfl rfl rfl ?_
      refine v_iload_n E dX4_servedBy_11 rfl ?_
      refine v_ialoadE E dX4_servedBy_12 rfl rfl (by omega) (by decide) (m7 l (by omega)) ?_
      refine v_icmp_geN (tgt := 56) E dX4_servedBy_13 (by decide) (by omega) (by omega) (fun c => ?_) (fun c => ?_)
      · exact absurd c (by omega)
      · refine v_aload_n E dX4_servedBy_16 rfl ?_
        refine v_aload_n E dX4_servedBy_17 rfl ?_
        refine v_getR E f_X4_33 dX4_servedBy_18 rfl rfl rfl ?_
        refine v_bipush (v := nI 12) E dX4_servedBy_21 (by decide) ?_
        refine v_iload_n E dX4_servedBy_23 rfl ?_
        refine v_imulN E dX4_servedBy_24 ?_
        refine v_iload E dX4_servedBy_25 rfl ?_
        refine v_iaddN E dX4_servedBy_27 ?_
        refine v_ialoadE E dX4_servedBy_28 rfl rfl (by omega) (by decide) (m8 l k (by omega) hk1) ?_
        refine v_callV1 E dX4_servedBy_29 k_X4_98 Y_X4_isSingle (mm_isSingle d nl I J (s_hs s l k) hb.1 hb1) rfl rfl rfl (Nat.le_of_ble_eq_true rfl) ?_
        have e : q_hp (s_hs s l) (k + 1) = if q_pop (s_hs s l k) = 1 then q_hp (s_hs s l) k ||| s_hs s l k else q_hp (s_hs s l) k := rfl
        refine v_if_eqB (tgt := 50) E dX4_servedBy_32 (by decide)  (fun c2 => ?_) (fun c2 => ?_)
        · rw [if_neg (of_decide_eq_false c2)] at e
          refine v_inc E dX4_servedBy_50 rfl (by decide) ?_
          refine v_goto (tgt := 5) E dX4_servedBy_53 (by decide) ?_
          rw [e] at ih
          exact ih
        · rw [if_pos (of_decide_eq_true c2)] at e
          refine v_iload_n E dX4_servedBy_35 rfl ?_
          refine v_aload_n E dX4_servedBy_36 rfl ?_
          refine v_getR E f_X4_33 dX4_servedBy_37 rfl rfl rfl ?_
          refine v_bipush (v := nI 12) E dX4_servedBy_40 (by decide) ?_
          refine v_iload_n E dX4_servedBy_42 rfl ?_
          refine v_imulN E dX4_servedBy_43 ?_
          refine v_iload E dX4_servedBy_44 rfl ?_
          refine v_iaddN E dX4_servedBy_46 ?_
          refine v_ialoadE E dX4_servedBy_47 rfl rfl (by omega) (by decide) (m8 l k (by omega) hk1) ?_
          refine v_iorN E dX4_servedBy_48 ?_
          refine v_istore_n E dX4_servedBy_49 (by decide) ?_
          refine v_inc E dX4_servedBy_50 rfl (by decide) ?_
          refine v_goto (tgt := 5) E dX4_servedBy_53 (by decide) ?_
          rw [e] at ih
          exact ih
  refine v_iconst (v := nI 0) E dX4_servedBy_0 (by decide) ?_
  refine v_istore_n E dX4_servedBy_1 (by decide) ?_
  refine v_iconst (v := nI 0) E dX4_servedBy_2 (by decide) ?_
  refine v_istore E dX4_servedBy_3 (by decide) ?_
  exact loop1 0 (by omega)
theorem mm_servedB (d nl : Nat) (s : zS) (hw : s_wf s) (h5 : s_np s ≤ 5) (I : zI) (J : zJ) (hm : mI s I J) (l : Nat) (hl : l < s_nl s) (ms : List Nat) (hms : ∀ r ∈ ms, r < 2 ^ s_np s) : z_C yX4_servedBy cX4_servedBy 8 (some .boolean) (d + 1) [.ref 17, .int (nI l), .int (nI (sB (ms ++ s_rows s l)))] (z_s nl) I J 0 0 (z_q (some (.int (nI (s_pw s ms l).toNat))) (z_s nl) I J) := by
  have h := mm_servedBy d nl s hw h5 I J hm l hl (sB (ms ++ s_rows s l)) (sB_lt _)
  have hr : ∀ r ∈ ms ++ s_rows s l, r < 2 ^ s_np s := fun r h => (List.mem_append.mp h).elim (hms r) (s_rows_np hw l (Nat.le_refl _) r)
  rw [b_sv_congr (V := fun p => l_sp (ms ++ s_rows s l) (2 ^ p)) (fun p hp => by
    have h32 : 2 ^ p < 32 := Nat.lt_of_lt_of_le (Nat.pow_lt_pow_right (n := s_np s) (by decide) hp) (Nat.pow_le_pow_right (n := 2) (by decide) h5)
    show (sB _).testBit (2 ^ p) = _
    unfold sB
    rw [o_m_bit, decide_eq_true h32]
    rfl), b_sv_eq hw.1 hr (hw.2.2.2.2.1 l)] at h
  exact h
theorem s_pl_all2 (s : zS) (ms : List Nat) : s_pl s ms = b_all (s_pw s ms) (s_nl s) := by
  rw [Bool.eq_iff_iff, b_all_iff]
  unfold s_pl
  exact decide_eq_true_iff
/-- the levels of the table, and what has been tried -/
def tbl (s : zS) : List Nat → zI → Prop
  | [], I => ∀ l, l < s_nl s → I 35 l = nI (sB (s_rows s l))
  | m :: pre, I => (∀ l, l < s_nl s → I 35 (10 * (pre.length + 1) + l) = nI (sB (m :: pre ++ s_rows s l))) ∧ I 36 (pre.length + 1) = nI m ∧ tbl s pre I
theorem tbl.top {s : zS} {I : zI} : ∀ {pre : List Nat}, tbl s pre I → ∀ l, l < s_nl s → I 35 (10 * pre.length + l) = nI (sB (pre ++ s_rows s l))
  | [], h, l, hl => by
    show I 35 (10 * 0 + l) = _
    rw [show 10 * 0 + l = l by omega]
    exact h l hl
  | _ :: _, h, l, hl => h.1 l hl
theorem tbl.up {s : zS} (hn : s_nl s ≤ 10) {I I' : zI} : ∀ {pre : List Nat}, tbl s pre I → (∀ j, j ≤ pre.length → I' 36 j = I 36 j) → (∀ j, j < 10 * pre.length + 10 → I' 35 j = I 35 j) → tbl s pre I'
  | [], h, _, h2 => fun l hl => by
    rw [h2 l (by simp only [List.length_nil]; omega)]
    exact h l hl
  | m :: pre, h, h1, h2 => by
    simp only [List.length_cons] at h1 h2
    refine ⟨fun l hl => ?_, ?_, tbl.up hn h.2.2 (fun j hj => h1 j (by omega)) (fun j hj => h2 j (by omega))⟩
    · rw [h2 _ (by omega)]; exact h.1 l hl
    · rw [h1 _ (Nat.le_refl _)]; exact h.2.1
theorem tbl.get {s : zS} {I : zI} : ∀ {pre : List Nat}, tbl s pre I → ∀ i, i < pre.length → I 36 (i + 1) = nI (pre.reverse.getD i 0)
  | m :: pre, h, i, hi => by
    simp only [List.length_cons] at hi
    rw [List.reverse_cons, List.getD_eq_getElem?_getD]
    by_cases e : i = pre.length
    · subst e
      rw [List.getElem?_append_right (by simp), List.length_reverse, Nat.sub_self]
      exact h.2.1
    · rw [List.getElem?_append_left (by rw [List.length_reverse]; omega), ← List.getD_eq_getElem?_getD]
      exact tbl.get h.2.2 i (by omega)
theorem mm_step (d nl : Nat) (s : zS) (hw : s_wf s) (h5 : s_np s ≤ 5) (I : zI) (J : zJ) (hm : mI s I J) (pre : List Nat) (hl5 : pre.length < 5) (hT : tbl s pre I) (m : Nat) (hmm : m < 2 ^ s_np s) (hpre : ∀ r ∈ pre, r < 2 ^ s_np s) (hI : I 36 (pre.length + 1) = nI m) : z_C yX4_step cX4_step 4 (some .boolean) (d + 2) [.ref 17, .int (nI (pre.length + 1))] (z_s nl) I J 0 0 (fun r h' I' J' => r = some (.int (nI (s_pl s (m :: pre)).toNat)) ∧ h' = z_s nl ∧ tbl s (m :: pre) I' ∧ (∀ q, q ≠ 35 → I' q = I q) ∧ J' = J) := by
  have w2 := hw.2.1
  have hm32 : m < 32 := Nat.lt_of_lt_of_le hmm (Nat.pow_le_pow_right (n := 2) (by decide) h5)
  have hms : ∀ r ∈ m :: pre, r < 2 ^ s_np s := fun r h => (List.mem_cons.mp h).elim (fun e => by rw [e]; exact hmm) (hpre r)
  refine z_C.of (by decide) (Nat.le_of_ble_eq_true rfl) fun K E X => ?_
  refine v_iconst (v := nI 1) E dX4_step_0 (by decide) ?_
  refine v_istore_n E dX4_step_1 (by decide) ?_
  refine v_iconst (v := nI 0) E dX4_step_2 (by decide) ?_
  refine v_istore_n E dX4_step_3 (by decide) ?_
  have loop : ∀ k, k ≤ s_nl s → ∀ I', (∀ l, l < k → I' 35 (10 * (pre.length + 1) + l) = nI (sB (m :: pre ++ s_rows s l))) → (∀ j, j < 10 * pre.length + 10 → I' 35 j = I 35 j) → (∀ q, q ≠ 35 → I' q = I q) → z_V K 4 [(0, .ref 17), (1, .int (nI (pre.length + 1))), (2, .int (nI (b_all (s_pw s (m :: pre)) k).toNat)), (3, .int (nI k))] [] (z_s nl) I' J 0 0 := by
    refine z_for _ ?_ (fun k hk ih => ?_)
    · intro I' h1 h2 h3
      refine v_iload_n E dX4_step_4 rfl ?_
      refine v_aload_n E dX4_step_5 rfl ?_
      refine v_getIE E f_X4_13 dX4_step_6 rfl rfl ((congrFun (h3 17 (by decide)) _).trans hm.2.1) ?_
      refine v_icmp_geN (tgt := 82) E dX4_step_9 (by decide) (by omega) (by omega) (fun c => ?_) (fun c => ?_)
      · refine v_iload_n E dX4_step_82 rfl ?_
        exact v_zret E X dX4_step_83 (q_b01 _) ⟨by rw [s_pl_all2], rfl, ⟨h1, (congrFun (h3 36 (by decide)) _).trans hI, tbl.up w2 hT (fun j _ => by rw [h3 36 (by decide)]) h2⟩, h3, rfl⟩
      · exact absurd c (by omega)
    · intro I' h1 h2 h3
      have hmi : mI s I' J := mS.mI (I := I) ⟨fun q a b => h3 q (by omega), fun k _ => by rw [h3 17 (by decide)]⟩ hm
      have ht := (h2 (10 * pre.length + k) (by omega)).trans (hT.top k hk)
      refine v_iload_n E dX4_step_4 rfl ?_
      refine v_aload_n E dX4_step_5 rfl ?_
      refine v_getIE E f_X4_13 dX4_step_6 rfl rfl ((congrFun (h3 17 (by decide)) _).trans hm.2.1) ?_
      refine v_icmp_geN (tgt := 82) E dX4_step_9 (by decide) (by omega) (by omega) (fun c => ?_) (fun c => ?_)
      · exact absurd c (by omega)
      · refine v_aload_n E dX4_step_12 rfl ?_
        refine v_getR E f_X4_82 dX4_step_13 rfl rfl rfl ?_
        refine v_bipush (v := nI 10) E dX4_step_16 (by decide) ?_
        refine v_iload_n E dX4_step_18 rfl ?_
        refine v_imulN E dX4_step_19 ?_
        refine v_iload_n E dX4_step_20 rfl ?_
        refine v_iaddN E dX4_step_21 ?_
        refine v_aload_n E dX4_step_22 rfl ?_
        refine v_aload_n E dX4_step_23 rfl ?_
        refine v_getR E f_X4_82 dX4_step_24 rfl rfl rfl ?_
        refine v_bipush (v := nI 10) E dX4_step_27 (by decide) ?_
        refine v_iload_n E dX4_step_29 rfl ?_
        refine v_imulN E dX4_step_30 ?_
        refine v_bipush (v := nI 10) E dX4_step_31 (by decide) ?_
        refine v_isubN E dX4_step_33 (by omega) ?_
        refine v_iload_n E dX4_step_34 rfl ?_
        refine v_iaddN E dX4_step_35 ?_
        refine v_top (x2 := nI (10 * pre.length + k)) (congrArg nI (by omega)) ?_
        refine v_ialoadE E dX4_step_36 rfl rfl (by omega) (by decide) ht ?_
        refine v_aload_n E dX4_step_37 rfl ?_
        refine v_getR E f_X4_85 dX4_step_38 rfl rfl rfl ?_
        refine v_iload_n E dX4_step_41 rfl ?_
        refine v_ialoadE E dX4_step_42 rfl rfl (by omega) (by decide) ((congrFun (h3 36 (by decide)) _).trans hI) ?_
        refine v_callV1 E dX4_step_43 k_X4_172 Y_X4_with (mm_with (d + 1) nl I' J (sB (pre ++ s_rows s k)) (sB_lt _) m hm32) rfl rfl rfl (Nat.le_of_ble_eq_true rfl) ?_
        rw [sB_with _ hm32]
        have e0 : m :: (pre ++ s_rows s k) = m :: pre ++ s_rows s k := rfl
        rw [e0]
        refine v_iastore E dX4_step_46 rfl rfl (by omega) (by decide) ?_
        refine v_iload_n E dX4_step_47 rfl ?_
        have fin : ∀ b : Bool, b = (b_all (s_pw s (m :: pre)) k && s_pw s (m :: pre) k) → z_V K 75 [(0, .ref 17), (1, .int (nI (pre.length + 1))), (2, .int (nI (b_all (s_pw s (m :: pre)) k).toNat)), (3, .int (nI k))] [.int (nI b.toNat)] (z_s nl) (z_u I' 35 (10 * (pre.length + 1) + k) (nI (sB (m :: pre ++ s_rows s k)))) J 0 0 := by
          rintro b rfl
          refine v_istore_n E dX4_step_75 (by decide) ?_
          refine v_inc E dX4_step_76 rfl (by decide) ?_
          refine v_goto (tgt := 4) E dX4_step_79 (by decide) ?_
          refine ih _ (fun l hl => ?_) (fun j hj => ?_) (fun q hq => ?_)
          · by_cases e : l = k
            · subst e
              exact z_u_same
            · rw [z_u_col (by omega)]
              exact h1 l (by omega)
          · rw [z_u_col (by omega)]; exact h2 j hj
          · rw [z_u_row hq]; exact h3 q hq
        refine v_if_eqB (tgt := 74) E dX4_step_48 (by decide)  (fun c2 => ?_) (fun c2 => ?_)
        · refine v_iconst (v := nI 0) E dX4_step_74 (by decide) ?_
          exact fin false (by rw [c2]; rfl)
        · refine v_aload_n E dX4_step_51 rfl ?_
          refine v_iload_n E dX4_step_52 rfl ?_
          refine v_aload_n E dX4_step_53 rfl ?_
          refine v_getR E f_X4_82 dX4_step_54 rfl rfl rfl ?_
          refine v_bipush (v := nI 10) E dX4_step_57 (by decide) ?_
          refine v_iload_n E dX4_step_59 rfl ?_
          refine v_imulN E dX4_step_60 ?_
          refine v_iload_n E dX4_step_61 rfl ?_
          refine v_iaddN E dX4_step_62 ?_
          refine v_ialoadE E dX4_step_63 rfl rfl (by omega) (by decide) z_u_same ?_
          refine v_callV1 E dX4_step_64 k_X4_175 Y_X4_servedBy (mm_servedB d nl s hw h5 _ J (mS.mI (I := I') ⟨fun q a b => z_u_row (by omega), fun k _ => by rw [z_u_row (by decide)]⟩ hmi) k hk (m :: pre) hms) rfl rfl rfl (Nat.le_of_ble_eq_true rfl) ?_
          refine v_if_eqB (tgt := 74) E dX4_step_67 (by decide)  (fun c3 => ?_) (fun c3 => ?_)
          · refine v_iconst (v := nI 0) E dX4_step_74 (by decide) ?_
            exact fin false (by rw [c3, Bool.and_false])
          · refine v_iconst (v := nI 1) E dX4_step_70 (by decide) ?_
            refine v_goto (tgt := 75) E dX4_step_71 (by decide) ?_
            exact fin true (by rw [c2, c3]; rfl)
  exact loop 0 (by omega) I (fun l hl => absurd hl (Nat.not_lt_zero l)) (fun _ _ => rfl) (fun _ _ => rfl)
theorem sB_np {s : zS} {rs : List Nat} (h5 : s_np s ≤ 5) (hr : ∀ r ∈ rs, r < 2 ^ s_np s) : o_m (l_sp rs) (2 ^ s_np s) = sB rs := by
  have h32 : 2 ^ s_np s ≤ 32 := Nat.pow_le_pow_right (n := 2) (by decide) h5
  unfold sB
  apply Nat.eq_of_testBit_eq
  intro j
  rw [o_m_bit, o_m_bit]
  by_cases e : j < 2 ^ s_np s
  · rw [decide_eq_true e, decide_eq_true (by omega)]
  · have : l_sp rs j = false := by
      cases h : l_sp rs j with
      | false => rfl
      | true => exact absurd (l_sp_lt hr h) e
    rw [this, Bool.and_false, Bool.and_false]
theorem mm_begin (d nl : Nat) (s : zS) (hw : s_wf s) (h5 : s_np s ≤ 5) (I : zI) (J : zJ) (hm : mI s I J) : z_C yX4_begin cX4_begin 5 (some .boolean) (d + 3) [.ref 17] (z_s nl) I J 0 0 (fun r h' I' J' => r = some (.int (nI (s_pl s []).toNat)) ∧ h' = z_s nl ∧ tbl s [] I' ∧ mS I I' ∧ J' = J) := by
  have w2 := hw.2.1
  have h32 : 2 ^ s_np s ≤ 32 := Nat.pow_le_pow_right (n := 2) (by decide) h5
  refine z_C.of (by decide) (Nat.le_of_ble_eq_true rfl) fun K E X => ?_
  refine v_aload_n E dX4_begin_0 rfl ?_
  refine v_callV E dX4_begin_1 k_X4_141 Y_X4_knowAll (mm_knowAll (d) nl s hw I J hm) rfl rfl rfl (Nat.le_of_ble_eq_true rfl) ?_
  rintro r h' I1 J1 ⟨rfl, rfl, g1, hS, rfl⟩
  have hm1 := hS.mI hm
  refine v_iconst (v := nI 1) E dX4_begin_4 (by decide) ?_
  refine v_istore_n E dX4_begin_5 (by decide) ?_
  refine v_iconst (v := nI 0) E dX4_begin_6 (by decide) ?_
  refine v_istore_n E dX4_begin_7 (by decide) ?_
  have loop : ∀ k, k ≤ s_nl s → ∀ I', (∀ l, l < k → I' 35 l = nI (sB (s_rows s l))) → (∀ q, q ≠ 35 → I' q = I1 q) → ∀ lr, z_V K 8 ([(0, .ref 17), (1, .int (nI (b_all (s_pw s []) k).toNat)), (2, .int (nI k))] ++ lr) [] (z_s nl) I' J1 0 0 := by
    refine z_for _ ?_ (fun k hk ih => ?_)
    · intro I' h1 h3 lr
      refine v_ls (ls2 := [(0, .ref 17), (1, .int (nI (b_all (s_pw s []) (s_nl s)).toNat)), (2, .int (nI (s_nl s)))]) (by intro q hq; simp only [List.mem_cons, List.not_mem_nil, or_false] at hq; rcases hq with rfl | rfl | rfl <;> rfl) ?_
      refine v_iload_n E dX4_begin_8 rfl ?_
      refine v_aload_n E dX4_begin_9 rfl ?_
      refine v_getIE E f_X4_13 dX4_begin_10 rfl rfl ((congrFun (h3 17 (by decide)) _).trans hm1.2.1) ?_
      refine v_icmp_geN (tgt := 87) E dX4_begin_13 (by decide) (by omega) (by omega) (fun c => ?_) (fun c => ?_)
      · refine v_iload_n E dX4_begin_87 rfl ?_
        exact v_zret E X dX4_begin_88 (q_b01 _) ⟨by rw [s_pl_all2], rfl, h1, hS.tr ⟨fun q a b => h3 q (by omega), fun k _ => by rw [h3 17 (by decide)]⟩, rfl⟩
      · exact absurd c (by omega)
    · intro I' h1 h3 lr
      refine v_ls (ls2 := [(0, .ref 17), (1, .int (nI (b_all (s_pw s []) k).toNat)), (2, .int (nI k))]) (by intro q hq; simp only [List.mem_cons, List.not_mem_nil, or_false] at hq; rcases hq with rfl | rfl | rfl <;> rfl) ?_
      have hmi : mI s I' J1 := mS.mI (I := I1) ⟨fun q a b => h3 q (by omega), fun k _ => by rw [h3 17 (by decide)]⟩ hm1
      have hO : knO k (s_rows s k) I' := fun m hm => by rw [h3 28 (by decide)]; exact g1 k hk m hm
      refine v_iload_n E dX4_begin_8 rfl ?_
      refine v_aload_n E dX4_begin_9 rfl ?_
      refine v_getIE E f_X4_13 dX4_begin_10 rfl rfl ((congrFun (h3 17 (by decide)) _).trans hm1.2.1) ?_
      refine v_icmp_geN (tgt := 87) E dX4_begin_13 (by decide) (by omega) (by omega) (fun c => ?_) (fun c => ?_)
      · exact absurd c (by omega)
      · refine v_iconst (v := nI 0) E dX4_begin_16 (by decide) ?_
        refine v_istore_n E dX4_begin_17 (by decide) ?_
        refine v_iconst (v := nI 0) E dX4_begin_18 (by decide) ?_
        refine v_istore E dX4_begin_19 (by decide) ?_
        have inner : ∀ m, m ≤ 2 ^ s_np s → z_V K 21 [(0, .ref 17), (1, .int (nI (b_all (s_pw s []) k).toNat)), (2, .int (nI k)), (3, .int (nI (o_m (l_sp (s_rows s k)) m))), (4, .int (nI m))] [] (z_s nl) I' J1 0 0 := by
          refine z_for _ ?_ (fun m hm9 ih2 => ?_)
          · refine v_iload E dX4_begin_21 rfl ?_
            refine v_iconst (v := nI 1) E dX4_begin_23 (by decide) ?_
            refine v_aload_n E dX4_begin_24 rfl ?_
            refine v_getIE E f_X4_7 dX4_begin_25 rfl rfl hmi.1 ?_
            refine v_ishlN E dX4_begin_28 (by omega) ?_
            refine v_p2 ?_
            refine v_icmp_geN (tgt := 55) E dX4_begin_29 (by decide) (by omega) (by omega) (fun c2 => ?_) (fun c2 => ?_)
            · rw [sB_np (rs := s_rows s k) h5 (s_rows_np hw k (Nat.le_refl _))]
              change z_V K _ [(0, .ref 17), (1, .int (nI (b_all (s_pw s []) k).toNat)), (2, .int (nI k)), (3, .int (nI (sB (s_rows s k)))), (4, .int (nI (2 ^ s_np s)))] _ _ _ _ _ _
              have fin : ∀ b : Bool, b = (b_all (s_pw s []) k && s_pw s [] k) → z_V K 80 [(0, .ref 17), (1, .int (nI (b_all (s_pw s []) k).toNat)), (2, .int (nI k)), (3, .int (nI (sB (s_rows s k)))), (4, .int (nI (2 ^ s_np s)))] [.int (nI b.toNat)] (z_s nl) (z_u I' 35 k (nI (sB (s_rows s k)))) J1 0 0 := by
                rintro b rfl
                refine v_istore_n E dX4_begin_80 (by decide) ?_
                refine v_inc E dX4_begin_81 rfl (by decide) ?_
                refine v_goto (tgt := 8) E dX4_begin_84 (by decide) ?_
                refine ih _ (fun l hl => ?_) (fun q hq => ?_) [(3, .int (nI (sB (s_rows s k)))), (4, .int (nI (2 ^ s_np s)))]
                · by_cases e : l = k
                  · subst e
                    exact z_u_same
                  · rw [z_u_col e]
                    exact h1 l (by omega)
                · rw [z_u_row hq]; exact h3 q hq
              refine v_aload_n E dX4_begin_55 rfl ?_
              refine v_getR E f_X4_82 dX4_begin_56 rfl rfl rfl ?_
              refine v_iload_n E dX4_begin_59 rfl ?_
              refine v_iload_n E dX4_begin_60 rfl ?_
              refine v_iastore E dX4_begin_61 rfl rfl (by omega) (by decide) ?_
              refine v_iload_n E dX4_begin_62 rfl ?_
              refine v_if_eqB (tgt := 79) E dX4_begin_63 (by decide)  (fun c3 => ?_) (fun c3 => ?_)
              · refine v_iconst (v := nI 0) E dX4_begin_79 (by decide) ?_
                exact fin false (by rw [c3]; rfl)
              · refine v_aload_n E dX4_begin_66 rfl ?_
                refine v_iload_n E dX4_begin_67 rfl ?_
                refine v_iload_n E dX4_begin_68 rfl ?_
                refine v_callV1 E dX4_begin_69 k_X4_175 Y_X4_servedBy (mm_servedB (d + 1) nl s hw h5 _ J1 (mS.mI (I := I') ⟨fun q a b => z_u_row (by omega), fun k _ => by rw [z_u_row (by decide)]⟩ hmi) k hk [] (fun r h => absurd h (List.not_mem_nil))) rfl rfl rfl (Nat.le_of_ble_eq_true rfl) ?_
                refine v_if_eqB (tgt := 79) E dX4_begin_72 (by decide)  (fun c4 => ?_) (fun c4 => ?_)
                · refine v_iconst (v := nI 0) E dX4_begin_79 (by decide) ?_
                  exact fin false (by rw [c4, Bool.and_false])
                · refine v_iconst (v := nI 1) E dX4_begin_75 (by decide) ?_
                  refine v_goto (tgt := 80) E dX4_begin_76 (by decide) ?_
                  exact fin true (by rw [c3, c4]; rfl)
            · exact absurd c2 (by omega)
          · have e : o_m (l_sp (s_rows s k)) (m + 1) = if l_sp (s_rows s k) m then o_m (l_sp (s_rows s k)) m ||| 2 ^ m else o_m (l_sp (s_rows s k)) m := rfl
            refine v_iload E dX4_begin_21 rfl ?_
            refine v_iconst (v := nI 1) E dX4_begin_23 (by decide) ?_
            refine v_aload_n E dX4_begin_24 rfl ?_
            refine v_getIE E f_X4_7 dX4_begin_25 rfl rfl hmi.1 ?_
            refine v_ishlN E dX4_begin_28 (by omega) ?_
            refine v_p2 ?_
            refine v_icmp_geN (tgt := 55) E dX4_begin_29 (by decide) (by omega) (by omega) (fun c2 => ?_) (fun c2 => ?_)
            · exact absurd c2 (by omega)
            · refine v_aload_n E dX4_begin_32 rfl ?_
              refine v_iload_n E dX4_begin_33 rfl ?_
              refine v_iload E dX4_begin_34 rfl ?_
              refine v_callV1 E dX4_begin_36 k_X4_124 Y_X4_isOut (mm_isOut (d + 2) nl I' J1 k (by omega) hO m (by omega)) rfl rfl rfl (Nat.le_of_ble_eq_true rfl) ?_
              refine v_if_eqB (tgt := 49) E dX4_begin_39 (by decide)  (fun c3 => ?_) (fun c3 => ?_)
              · rw [c3] at e
                rw [e] at ih2
                refine v_inc E dX4_begin_49 rfl (by decide) ?_
                refine v_goto (tgt := 21) E dX4_begin_52 (by decide) ?_
                exact ih2
              · rw [c3] at e
                rw [e] at ih2
                refine v_iload_n E dX4_begin_42 rfl ?_
                refine v_iconst (v := nI 1) E dX4_begin_43 (by decide) ?_
                refine v_iload E dX4_begin_44 rfl ?_
                refine v_ishlN E dX4_begin_46 (by omega) ?_
                refine v_p2 ?_
                refine v_iorN E dX4_begin_47 ?_
                refine v_istore_n E dX4_begin_48 (by decide) ?_
                refine v_inc E dX4_begin_49 rfl (by decide) ?_
                refine v_goto (tgt := 21) E dX4_begin_52 (by decide) ?_
                exact ih2
        exact inner 0 (Nat.zero_le _)
  exact loop 0 (by omega) I1 (fun l hl => absurd hl (Nat.not_lt_zero l)) (fun _ _ => rfl) []
