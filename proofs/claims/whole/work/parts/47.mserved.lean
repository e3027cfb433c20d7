/-! THE MODEL: served -/
def b_any (P : Nat → Bool) : Nat → Bool
  | 0 => false
  | k + 1 => b_any P k || P k
def b_all (P : Nat → Bool) : Nat → Bool
  | 0 => true
  | k + 1 => b_all P k && P k
theorem b_any_iff {P : Nat → Bool} : ∀ {k : Nat}, b_any P k = true ↔ ∃ p, p < k ∧ P p = true
  | 0 => ⟨fun h => absurd h Bool.false_ne_true, fun ⟨p, h, _⟩ => absurd h (Nat.not_lt_zero p)⟩
  | k + 1 => by
    have ih := b_any_iff (P := P) (k := k)
    simp only [b_any, Bool.or_eq_true, ih]
    constructor
    · rintro (⟨p, h1, h2⟩ | h)
      · exact ⟨p, by omega, h2⟩
      · exact ⟨k, by omega, h⟩
    · rintro ⟨p, h1, h2⟩
      by_cases e : p = k
      · subst e; exact Or.inr h2
      · exact Or.inl ⟨p, by omega, h2⟩
theorem b_all_iff {P : Nat → Bool} : ∀ {k : Nat}, b_all P k = true ↔ ∀ p, p < k → P p = true
  | 0 => ⟨fun _ p h => absurd h (Nat.not_lt_zero p), fun _ => rfl⟩
  | k + 1 => by
    have ih := b_all_iff (P := P) (k := k)
    simp only [b_all, Bool.and_eq_true, ih]
    constructor
    · rintro ⟨h1, h2⟩ p hp
      by_cases e : p = k
      · subst e; exact h2
      · exact h1 p (by omega)
    · intro h
      exact ⟨fun p hp => h p (by omega), h k (by omega)⟩
theorem b_any_congr {P Q : Nat → Bool} {k : Nat} (h : ∀ p, p < k → P p = Q p) : b_any P k = b_any Q k := by
  rw [Bool.eq_iff_iff, b_any_iff, b_any_iff]
  exact ⟨fun ⟨p, h1, h2⟩ => ⟨p, h1, by rw [← h p h1]; exact h2⟩, fun ⟨p, h1, h2⟩ => ⟨p, h1, by rw [h p h1]; exact h2⟩⟩
theorem b_all_congr {P Q : Nat → Bool} {k : Nat} (h : ∀ p, p < k → P p = Q p) : b_all P k = b_all Q k := by
  rw [Bool.eq_iff_iff, b_all_iff, b_all_iff]
  exact ⟨fun z p h1 => by rw [← h p h1]; exact z p h1, fun z p h1 => by rw [h p h1]; exact z p h1⟩
/-- served, as the model asks for it: W says which pieces are worked out -/
def b_sv (kd hp wt np : Nat) (W : Nat → Bool) : Bool := if kd = 2 then decide (hp = 2 ^ np - 1) || b_any (fun p => W p && !hp.testBit p) np else b_all (fun p => W p || !wt.testBit p) np
theorem b_sv_congr {kd hp wt np : Nat} {W V : Nat → Bool} (h : ∀ p, p < np → W p = V p) : b_sv kd hp wt np W = b_sv kd hp wt np V := by
  unfold b_sv
  rw [b_any_congr (fun p hp => by rw [h p hp]), b_all_congr (fun p hp => by rw [h p hp])]
theorem b_sv_eq {rs : List Nat} {np kd hp wt : Nat} (hn : np ≤ 10) (hr : ∀ r ∈ rs, r < 2 ^ np) (hwt : wt < 2 ^ np) : b_sv kd hp wt np (fun p => l_sp rs (2 ^ p)) = l_sv kd hp wt (l_wo (l_f rs) 0 10) (2 ^ np - 1) := by
  have hb := l_wo_sp (rs := rs) (fun r h => p2_10 hn (hr r h))
  unfold b_sv l_sv
  by_cases e : kd = 2
  · rw [if_pos e, if_pos e]
    congr 1
    rw [Bool.eq_iff_iff, b_any_iff]
    constructor
    · rintro ⟨p, h1, h2⟩
      rw [Bool.and_eq_true] at h2
      refine decide_eq_true (fun z => ?_)
      have := q_df_bit (l_wo (l_f rs) 0 10) hp p
      have h3 : l_sp rs (2 ^ p) = true := h2.1
      rw [z, hb p, decide_eq_true (by omega : p < 10), h3, h2.2] at this
      simp at this
    · intro h
      have h := of_decide_eq_true h
      obtain ⟨i, hi⟩ := Nat.exists_testBit_of_ne_zero h
      rw [q_df_bit, hb i, Bool.and_eq_true, Bool.and_eq_true] at hi
      have h3 := l_sp_lt hr hi.1.2
      exact ⟨i, (Nat.pow_lt_pow_iff_right (by decide)).mp h3, by rw [Bool.and_eq_true]; exact ⟨hi.1.2, hi.2⟩⟩
  · rw [if_neg e, if_neg e, Bool.eq_iff_iff, b_all_iff, decide_eq_true_iff, g_sub]
    constructor
    · intro h i hi
      have hin : i < np := by
        rcases Nat.lt_or_ge i np with q | q
        · exact q
        · rw [q_hi hwt q] at hi; cases hi
      have := h i hin
      rw [hi] at this
      rw [hb i, decide_eq_true (by omega : i < 10)]
      simpa using this
    · intro h p hp
      by_cases hi : wt.testBit p = true
      · have := h p hi
        rw [hb p, Bool.and_eq_true] at this
        show (l_sp rs (2 ^ p) || !wt.testBit p) = true
        rw [this.2]
        rfl
      · rw [Bool.not_eq_true] at hi
        rw [hi]
        simp
theorem mm_isServed (d nl : Nat) (s : zS) (hw : s_wf s) (I : zI) (J : zJ) (hm : mI s I J) (l : Nat) (hl : l < s_nl s) (rs : List Nat) (hO : knO l rs I) (more : Nat) (hmo : more < 1024) : z_C yX4_isServed cX4_isServed 8 (some .boolean) (d + 1) [.ref 17, .int (nI l), .int (nI more)] (z_s nl) I J 0 0 (z_q (some (.int (nI (b_sv (s_kd s l) (s_hp s l) (s_wt s l) (s_np s) (fun p => l_sp (more :: rs) (2 ^ p))).toNat))) (z_s nl) I J) := by
  have hhp := p2_10 hw.1 (s_hp_lt hw l)
  obtain ⟨m1, m2, m3, m4, m5, m6, m7, m8, m9, m10, m11⟩ := hm
  obtain ⟨w1, w2, w3, w4, w5, w6, w7, w8, w9, w10⟩ := hw
  have h12 := w6 l
  have hk := w4 l
  have hwt := p2_10 w1 (w5 l)
  have hp2 : 2 ^ s_np s ≤ 1024 := Nat.pow_le_pow_right (n := 2) (by decide) w1
  have hp0 := Nat.two_pow_pos (s_np s)
  generalize hv : b_sv (s_kd s l) (s_hp s l) (s_wt s l) (s_np s) (fun p => l_sp (more :: rs) (2 ^ p)) = v
  unfold b_sv at hv
  refine z_C.of (by decide) (Nat.le_of_ble_eq_true rfl) fun K E X => ?_
  have loop2 : (s_kd s l = 2 → s_hp s l ≠ 2 ^ s_np s - 1) → ∀ p, p ≤ s_np s → z_V K 89 [(0, .ref 17), (1, .int (nI l)), (2, .int (nI more)), (3, .int (nI (s_hp s l))), (4, .int (nI (b_all (fun p => l_sp (more :: rs) (2 ^ p) || !(s_wt s l).testBit p) p).toNat)), (5, .int (nI (b_any (fun p => l_sp (more :: rs) (2 ^ p) && !(s_hp s l).testBit p) p).toNat)), (6, .int (nI p))] [] (z_s nl) I J 0 0 := by
    intro hne
    refine z_for (s_np s) ?_ (fun p hp ih => ?_)
    · refine v_iload E dX4_isServed_89 rfl ?_
      refine v_aload_n E dX4_isServed_91 rfl ?_
      refine v_getIE E f_X4_7 dX4_isServed_92 rfl rfl m1 ?_
      refine v_icmp_geN (tgt := 194) E dX4_isServed_95 (by decide) (by omega) (by omega) (fun c => ?_) (fun c => ?_)
      · refine v_aload_n E dX4_isServed_194 rfl ?_
        refine v_getR E f_X4_23 dX4_isServed_195 rfl rfl rfl ?_
        refine v_iload_n E dX4_isServed_198 rfl ?_
        refine v_ialoadE E dX4_isServed_199 rfl rfl (by omega) (by decide) (m5 l hl) ?_
        refine v_iconst (v := nI 2) E dX4_isServed_200 (by decide) ?_
        refine v_icmp_neN (tgt := 209) E dX4_isServed_201 (by decide) (by omega) (by omega) (fun c2 => ?_) (fun c2 => ?_)
        · rw [if_neg c2] at hv
          refine v_iload E dX4_isServed_209 rfl ?_
          exact v_zret E X dX4_isServed_211 (q_b01 _) (z_qi (by rw [hv]))
        · rw [if_pos c2, decide_eq_false (hne c2), Bool.false_or] at hv
          refine v_iload E dX4_isServed_204 rfl ?_
          refine v_goto (tgt := 211) E dX4_isServed_206 (by decide) ?_
          exact v_zret E X dX4_isServed_211 (q_b01 _) (z_qi (by rw [hv]))
      · exact absurd c (by omega)
    · have hpp : 2 ^ p < 1024 := p2_10 w1 (Nat.pow_lt_pow_right (by decide) hp)
      refine v_iload E dX4_isServed_89 rfl ?_
      refine v_aload_n E dX4_isServed_91 rfl ?_
      refine v_getIE E f_X4_7 dX4_isServed_92 rfl rfl m1 ?_
      refine v_icmp_geN (tgt := 194) E dX4_isServed_95 (by decide) (by omega) (by omega) (fun c => ?_) (fun c => ?_)
      · exact absurd c (by omega)
      · have eA : b_all (fun p => l_sp (more :: rs) (2 ^ p) || !(s_wt s l).testBit p) (p + 1) = (b_all (fun p => l_sp (more :: rs) (2 ^ p) || !(s_wt s l).testBit p) p && (l_sp (more :: rs) (2 ^ p) || !(s_wt s l).testBit p)) := rfl
        have eN : b_any (fun p => l_sp (more :: rs) (2 ^ p) && !(s_hp s l).testBit p) (p + 1) = (b_any (fun p => l_sp (more :: rs) (2 ^ p) && !(s_hp s l).testBit p) p || (l_sp (more :: rs) (2 ^ p) && !(s_hp s l).testBit p)) := rfl
        rw [eA, eN] at ih
        have eI : l_sp (more :: rs) (2 ^ p) = (l_sp rs (2 ^ p) || l_sp rs (2 ^ p ^^^ more)) := rfl
        generalize hA : b_all (fun p => l_sp (more :: rs) (2 ^ p) || !(s_wt s l).testBit p) p = bA at ih ⊢
        generalize hN : b_any (fun p => l_sp (more :: rs) (2 ^ p) && !(s_hp s l).testBit p) p = bN at ih ⊢
        generalize hI : l_sp (more :: rs) (2 ^ p) = bI at ih eI
        have t3 : ∀ b : Bool, b = (bA && (bI || !(s_wt s l).testBit p)) → z_V K 186 [(0, .ref 17), (1, .int (nI l)), (2, .int (nI more)), (3, .int (nI (s_hp s l))), (4, .int (nI bA.toNat)), (5, .int (nI (bN || (bI && !(s_hp s l).testBit p)).toNat)), (6, .int (nI p)), (7, .int (nI bI.toNat))] [.int (nI b.toNat)] (z_s nl) I J 0 0 := by
          rintro b rfl
          refine v_istore E dX4_isServed_186 (by decide) ?_
          refine v_inc E dX4_isServed_188 rfl (by decide) ?_
          refine v_goto (tgt := 89) E dX4_isServed_191 (by decide) ?_
          refine v_ls (ls2 := [(0, .ref 17), (1, .int (nI l)), (2, .int (nI more)), (3, .int (nI (s_hp s l))), (4, .int (nI (bA && (bI || !(s_wt s l).testBit p)).toNat)), (5, .int (nI (bN || (bI && !(s_hp s l).testBit p)).toNat)), (6, .int (nI (p + 1)))]) (by intro q hq; simp only [List.mem_cons, List.not_mem_nil, or_false] at hq; rcases hq with rfl | rfl | rfl | rfl | rfl | rfl | rfl <;> rfl) ?_
          exact ih
        have t2 : ∀ b : Bool, b = (bN || (bI && !(s_hp s l).testBit p)) → z_V K 155 [(0, .ref 17), (1, .int (nI l)), (2, .int (nI more)), (3, .int (nI (s_hp s l))), (4, .int (nI bA.toNat)), (5, .int (nI bN.toNat)), (6, .int (nI p)), (7, .int (nI bI.toNat))] [.int (nI b.toNat)] (z_s nl) I J 0 0 := by
          rintro b rfl
          refine v_istore E dX4_isServed_155 (by decide) ?_
          refine v_iload E dX4_isServed_157 rfl ?_
          refine v_if_eqB (tgt := 185) E dX4_isServed_159 (by decide)  (fun k1 => ?_) (fun k1 => ?_)
          · refine v_iconst (v := nI 0) E dX4_isServed_185 (by decide) ?_
            exact t3 false (by rw [k1]; rfl)
          · refine v_iload E dX4_isServed_162 rfl ?_
            refine v_if_neB (tgt := 181) E dX4_isServed_164 (by decide)  (fun k2 => ?_) (fun k2 => ?_)
            · refine v_iconst (v := nI 1) E dX4_isServed_181 (by decide) ?_
              refine v_goto (tgt := 186) E dX4_isServed_182 (by decide) ?_
              exact t3 true (by rw [k1, k2]; rfl)
            · refine v_aload_n E dX4_isServed_167 rfl ?_
              refine v_getR E f_X4_27 dX4_isServed_168 rfl rfl rfl ?_
              refine v_iload_n E dX4_isServed_171 rfl ?_
              refine v_ialoadE E dX4_isServed_172 rfl rfl (by omega) (by decide) (m6 l (by omega)) ?_
              refine v_iload E dX4_isServed_173 rfl ?_
              refine v_ishrN E dX4_isServed_175 (by omega) (by omega) ?_
              refine v_iconst (v := nI 1) E dX4_isServed_176 (by decide) ?_
              refine v_iandN E dX4_isServed_177 ?_
              refine v_tb ?_
              refine v_if_neB (tgt := 185) E dX4_isServed_178 (by decide)  (fun k3 => ?_) (fun k3 => ?_)
              · refine v_iconst (v := nI 0) E dX4_isServed_185 (by decide) ?_
                exact t3 false (by rw [k1, k2, k3]; rfl)
              · refine v_iconst (v := nI 1) E dX4_isServed_181 (by decide) ?_
                refine v_goto (tgt := 186) E dX4_isServed_182 (by decide) ?_
                exact t3 true (by rw [k1, k2, k3]; rfl)
        have t1 : ∀ b : Bool, b = bI → z_V K 129 [(0, .ref 17), (1, .int (nI l)), (2, .int (nI more)), (3, .int (nI (s_hp s l))), (4, .int (nI bA.toNat)), (5, .int (nI bN.toNat)), (6, .int (nI p))] [.int (nI b.toNat)] (z_s nl) I J 0 0 := by
          rintro b rfl
          refine v_istore E dX4_isServed_129 (by decide) ?_
          refine v_iload E dX4_isServed_131 rfl ?_
          refine v_if_neB (tgt := 150) E dX4_isServed_133 (by decide)  (fun k1 => ?_) (fun k1 => ?_)
          · refine v_iconst (v := nI 1) E dX4_isServed_150 (by decide) ?_
            refine v_goto (tgt := 155) E dX4_isServed_151 (by decide) ?_
            exact t2 true (by rw [k1]; rfl)
          · refine v_iload E dX4_isServed_136 rfl ?_
            refine v_if_eqB (tgt := 154) E dX4_isServed_138 (by decide)  (fun k2 => ?_) (fun k2 => ?_)
            · refine v_iconst (v := nI 0) E dX4_isServed_154 (by decide) ?_
              exact t2 false (by rw [k1, k2]; rfl)
            · refine v_iload_n E dX4_isServed_141 rfl ?_
              refine v_iload E dX4_isServed_142 rfl ?_
              refine v_ishrN E dX4_isServed_144 (by omega) (by omega) ?_
              refine v_iconst (v := nI 1) E dX4_isServed_145 (by decide) ?_
              refine v_iandN E dX4_isServed_146 ?_
              refine v_tb ?_
              refine v_if_neB (tgt := 154) E dX4_isServed_147 (by decide)  (fun k3 => ?_) (fun k3 => ?_)
              · refine v_iconst (v := nI 0) E dX4_isServed_154 (by decide) ?_
                exact t2 false (by rw [k1, k2, k3]; rfl)
              · refine v_iconst (v := nI 1) E dX4_isServed_150 (by decide) ?_
                refine v_goto (tgt := 155) E dX4_isServed_151 (by decide) ?_
                exact t2 true (by rw [k1, k2, k3]; rfl)
        refine v_aload_n E dX4_isServed_98 rfl ?_
        refine v_iload_n E dX4_isServed_99 rfl ?_
        refine v_iconst (v := nI 1) E dX4_isServed_100 (by decide) ?_
        refine v_iload E dX4_isServed_101 rfl ?_
        refine v_ishlN E dX4_isServed_103 (by omega) ?_
        refine v_p2 ?_
        refine v_callV1 E dX4_isServed_104 k_X4_124 Y_X4_isOut (mm_isOut d nl I J l (by omega) hO (2 ^ p) hpp) rfl rfl rfl (Nat.le_of_ble_eq_true rfl) ?_
        refine v_if_neB (tgt := 124) E dX4_isServed_107 (by decide)  (fun k1 => ?_) (fun k1 => ?_)
        · refine v_iconst (v := nI 1) E dX4_isServed_124 (by decide) ?_
          refine v_goto (tgt := 129) E dX4_isServed_125 (by decide) ?_
          exact t1 true (by rw [eI, k1]; rfl)
        · refine v_aload_n E dX4_isServed_110 rfl ?_
          refine v_iload_n E dX4_isServed_111 rfl ?_
          refine v_iconst (v := nI 1) E dX4_isServed_112 (by decide) ?_
          refine v_iload E dX4_isServed_113 rfl ?_
          refine v_ishlN E dX4_isServed_115 (by omega) ?_
          refine v_p2 ?_
          refine v_iload_n E dX4_isServed_116 rfl ?_
          refine v_ixorN E dX4_isServed_117 ?_
          refine v_callV1 E dX4_isServed_118 k_X4_124 Y_X4_isOut (mm_isOut d nl I J l (by omega) hO (2 ^ p ^^^ more) (q_xlt hpp hmo)) rfl rfl rfl (Nat.le_of_ble_eq_true rfl) ?_
          refine v_if_eqB (tgt := 128) E dX4_isServed_121 (by decide)  (fun k2 => ?_) (fun k2 => ?_)
          · refine v_iconst (v := nI 0) E dX4_isServed_128 (by decide) ?_
            exact t1 false (by rw [eI, k1, k2]; rfl)
          · refine v_iconst (v := nI 1) E dX4_isServed_124 (by decide) ?_
            refine v_goto (tgt := 129) E dX4_isServed_125 (by decide) ?_
            exact t1 true (by rw [eI, k1, k2]; rfl)
  have mid : (s_kd s l = 2 → s_hp s l ≠ 2 ^ s_np s - 1) → z_V K 80 [(0, .ref 17), (1, .int (nI l)), (2, .int (nI more)), (3, .int (nI (s_hp s l))), (4, .int (nI (s_hm s l)))] [] (z_s nl) I J 0 0 := by
    intro hne
    refine v_iconst (v := nI 1) E dX4_isServed_80 (by decide) ?_
    refine v_istore E dX4_isServed_81 (by decide) ?_
    refine v_iconst (v := nI 0) E dX4_isServed_83 (by decide) ?_
    refine v_istore E dX4_isServed_84 (by decide) ?_
    refine v_iconst (v := nI 0) E dX4_isServed_86 (by decide) ?_
    refine v_istore E dX4_isServed_87 (by decide) ?_
    exact loop2 hne 0 (by omega)
  have loop1 : ∀ k, k ≤ s_hm s l → z_V K 5 [(0, .ref 17), (1, .int (nI l)), (2, .int (nI more)), (3, .int (nI (q_hp (s_hs s l) k))), (4, .int (nI k))] [] (z_s nl) I J 0 0 := by
    refine z_for (s_hm s l) ?_ (fun k hk1 ih => ?_)
    · refine v_iload E dX4_isServed_5 rfl ?_
      refine v_aload_n E dX4_isServed_7 rfl ?_
      refine v_getR E f_X4_30 dX4_isServed_8 rfl rfl rfl ?_
      refine v_iload_n E dX4_isServed_11 rfl ?_
      refine v_ialoadE E dX4_isServed_12 rfl rfl (by omega) (by decide) (m7 l (by omega)) ?_
      refine v_icmp_geN (tgt := 56) E dX4_isServed_13 (by decide) (by omega) (by omega) (fun c => ?_) (fun c => ?_)
      · refine v_aload_n E dX4_isServed_56 rfl ?_
        refine v_getR E f_X4_23 dX4_isServed_57 rfl rfl rfl ?_
        refine v_iload_n E dX4_isServed_60 rfl ?_
        refine v_ialoadE E dX4_isServed_61 rfl rfl (by omega) (by decide) (m5 l hl) ?_
        refine v_iconst (v := nI 2) E dX4_isServed_62 (by decide) ?_
        refine v_icmp_neN (tgt := 80) E dX4_isServed_63 (by decide) (by omega) (by omega) (fun c2 => ?_) (fun c2 => ?_)
        · exact mid (fun z => absurd z c2)
        · refine v_iload_n E dX4_isServed_66 rfl ?_
          refine v_iconst (v := nI 1) E dX4_isServed_67 (by decide) ?_
          refine v_aload_n E dX4_isServed_68 rfl ?_
          refine v_getIE E f_X4_7 dX4_isServed_69 rfl rfl m1 ?_
          refine v_ishlN E dX4_isServed_72 (by omega) ?_
          refine v_p2 ?_
          refine v_iconst (v := nI 1) E dX4_isServed_73 (by decide) ?_
          refine v_isubN E dX4_isServed_74 (by omega) ?_
          have hq : s_hp s l = q_hp (s_hs s l) (s_hm s l) := rfl
          refine v_icmp_neN (tgt := 80) E dX4_isServed_75 (by decide) (by rw [← hq]; omega) (by omega) (fun c3 => ?_) (fun c3 => ?_)
          · exact mid (fun _ => c3)
          · refine v_iconst (v := nI 1) E dX4_isServed_78 (by decide) ?_
            have : v = true := by
              rw [← hv, if_pos c2, decide_eq_true (show s_hp s l = _ from c3)]
              rfl
            exact v_zret E X dX4_isServed_79 (by first | exact Or.inl rfl | exact Or.inr rfl) (z_qi (by rw [this]; rfl))
      · exact absurd c (by omega)
    · have hb := w7 l k hk1
      have hb1 := p2_10 w1 hb.2
      refine v_iload E dX4_isServed_5 rfl ?_
      refine v_aload_n E dX4_isServed_7 rfl ?_
      refine v_getR E f_X4_30 dX4_isServed_8 rfl rfl rfl ?_
      refine v_iload_n E dX4_isServed_11 rfl ?_
      refine v_ialoadE E dX4_isServed_12 rfl rfl (by omega) (by decide) (m7 l (by omega)) ?_
      refine v_icmp_geN (tgt := 56) E dX4_isServed_13 (by decide) (by omega) (by omega) (fun c => ?_) (fun c => ?_)
      · exact absurd c (by omega)
      · refine v_aload_n E dX4_isServed_16 rfl ?_
        refine v_aload_n E dX4_isServed_17 rfl ?_
        refine v_getR E f_X4_33 dX4_isServed_18 rfl rfl rfl ?_
        refine v_bipush (v := nI 12) E dX4_isServed_21 (by decide) ?_
        refine v_iload_n E dX4_isServed_23 rfl ?_
        refine v_imulN E dX4_isServed_24 ?_
        refine v_iload E dX4_isServed_25 rfl ?_
        refine v_iaddN E dX4_isServed_27 ?_
        refine v_ialoadE E dX4_isServed_28 rfl rfl (by omega) (by decide) (m8 l k (by omega) hk1) ?_
        refine v_callV1 E dX4_isServed_29 k_X4_98 Y_X4_isSingle (mm_isSingle d nl I J (s_hs s l k) hb.1 hb1) rfl rfl rfl (Nat.le_of_ble_eq_true rfl) ?_
        have e : q_hp (s_hs s l) (k + 1) = if q_pop (s_hs s l k) = 1 then q_hp (s_hs s l) k ||| s_hs s l k else q_hp (s_hs s l) k := rfl
        refine v_if_eqB (tgt := 50) E dX4_isServed_32 (by decide)  (fun c2 => ?_) (fun c2 => ?_)
        · rw [if_neg (of_decide_eq_false c2)] at e
          refine v_inc E dX4_isServed_50 rfl (by decide) ?_
          refine v_goto (tgt := 5) E dX4_isServed_53 (by decide) ?_
          rw [e] at ih
          exact ih
        · rw [if_pos (of_decide_eq_true c2)] at e
          refine v_iload_n E dX4_isServed_35 rfl ?_
          refine v_aload_n E dX4_isServed_36 rfl ?_
          refine v_getR E f_X4_33 dX4_isServed_37 rfl rfl rfl ?_
          refine v_bipush (v := nI 12) E dX4_isServed_40 (by decide) ?_
          refine v_iload_n E dX4_isServed_42 rfl ?_
          refine v_imulN E dX4_isServed_43 ?_
          refine v_iload E dX4_isServed_44 rfl ?_
          refine v_iaddN E dX4_isServed_46 ?_
          refine v_ialoadE E dX4_isServed_47 rfl rfl (by omega) (by decide) (m8 l k (by omega) hk1) ?_
          refine v_iorN E dX4_isServed_48 ?_
          refine v_istore_n E dX4_isServed_49 (by decide) ?_
          refine v_inc E dX4_isServed_50 rfl (by decide) ?_
          refine v_goto (tgt := 5) E dX4_isServed_53 (by decide) ?_
          rw [e] at ih
          exact ih
  refine v_iconst (v := nI 0) E dX4_isServed_0 (by decide) ?_
  refine v_istore_n E dX4_isServed_1 (by decide) ?_
  refine v_iconst (v := nI 0) E dX4_isServed_2 (by decide) ?_
  refine v_istore E dX4_isServed_3 (by decide) ?_
  exact loop1 0 (by omega)
