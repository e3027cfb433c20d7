/-! THE MODEL: by which rows -/
/-- the numbers below k of a set's bits, rising -/
def b_ix (w : Nat) : Nat → List Nat
  | 0 => []
  | k + 1 => if w.testBit k then b_ix w k ++ [k] else b_ix w k
theorem b_ix_mem {w x : Nat} : ∀ {k : Nat}, x ∈ b_ix w k ↔ x < k ∧ w.testBit x = true
  | 0 => by simp [b_ix]
  | k + 1 => by
    have ih := b_ix_mem (w := w) (x := x) (k := k)
    simp only [b_ix]
    cases h : w.testBit k with
    | true =>
      simp only [if_true, List.mem_append, List.mem_singleton, ih]
      constructor
      · rintro (⟨h1, h2⟩ | rfl)
        · exact ⟨by omega, h2⟩
        · exact ⟨by omega, h⟩
      · rintro ⟨h1, h2⟩
        by_cases e : x = k
        · exact Or.inr e
        · exact Or.inl ⟨by omega, h2⟩
    | false =>
      simp only [Bool.false_eq_true, if_false, ih]
      constructor
      · rintro ⟨h1, h2⟩
        exact ⟨by omega, h2⟩
      · rintro ⟨h1, h2⟩
        refine ⟨?_, h2⟩
        by_cases e : x = k
        · rw [e, h] at h2; cases h2
        · omega
theorem b_ix_congr {w v : Nat} : ∀ {k : Nat}, (∀ i, i < k → w.testBit i = v.testBit i) → b_ix w k = b_ix v k
  | 0, _ => rfl
  | k + 1, h => by simp only [b_ix, h k (by omega), b_ix_congr (k := k) (fun i hi => h i (by omega))]
theorem b_ix_len : ∀ rs : List Nat, (b_ix (l_nw rs) rs.length).length = l_rk rs
  | [] => rfl
  | r :: rs => by
    have ih := b_ix_len rs
    have e : b_ix (l_nw (r :: rs)) rs.length = b_ix (l_nw rs) rs.length := b_ix_congr (fun i hi => by rw [l_nw_cons, if_neg (by omega)])
    show (b_ix (l_nw (r :: rs)) (rs.length + 1)).length = _
    simp only [b_ix, e]
    rw [l_nw_cons, if_pos rfl]
    simp only [l_rk]
    cases l_sp rs r <;> simp [ih]
theorem b_ix_mono (w : Nat) : ∀ j k, (b_ix w k).length ≤ (b_ix w (k + j)).length
  | 0, k => Nat.le_refl _
  | j + 1, k => by
    have ih := b_ix_mono w j k
    show _ ≤ (b_ix w (k + j + 1)).length
    simp only [b_ix]
    split
    · simp only [List.length_append, List.length_cons, List.length_nil]; omega
    · exact ih
theorem b_ix_pw (w : Nat) : ∀ k, (b_ix w k).Pairwise (· < ·)
  | 0 => List.Pairwise.nil
  | k + 1 => by
    have ih := b_ix_pw w k
    simp only [b_ix]
    split
    · refine List.pairwise_append.mpr ⟨ih, List.pairwise_singleton _ _, fun a ha b hb => ?_⟩
      rw [List.mem_singleton] at hb
      rw [hb]
      exact (b_ix_mem.mp ha).1
    · exact ih
theorem b_getD_mem {L : List Nat} {j : Nat} (h : j < L.length) : L.getD j 0 ∈ L := by
  rw [List.getD_eq_getElem?_getD, List.getElem?_eq_getElem h]
  exact List.getElem_mem h
theorem b_getD_lt {L : List Nat} (hL : L.Pairwise (· < ·)) {i j : Nat} (h1 : i < j) (h : j < L.length) : L.getD i 0 < L.getD j 0 := by
  rw [List.getD_eq_getElem?_getD, List.getD_eq_getElem?_getD, List.getElem?_eq_getElem h, List.getElem?_eq_getElem (by omega)]
  exact (List.pairwise_iff_getElem.mp hL) i j (by omega) h h1
/-- the set of the numbers of L that set chooses, among the first k -/
def b_sel (L : List Nat) (set : Nat) : Nat → Nat
  | 0 => 0
  | k + 1 => if set.testBit k then b_sel L set k ||| 2 ^ L.getD k 0 else b_sel L set k
theorem b_sel_bit (L : List Nat) (set x : Nat) : ∀ k, (b_sel L set k).testBit x = true ↔ ∃ j, j < k ∧ set.testBit j = true ∧ L.getD j 0 = x
  | 0 => by simp [b_sel]
  | k + 1 => by
    have ih := b_sel_bit L set x k
    simp only [b_sel]
    cases h : set.testBit k with
    | true =>
      rw [if_pos rfl, Nat.testBit_or, Bool.or_eq_true, ih, Nat.testBit_two_pow, decide_eq_true_iff]
      constructor
      · rintro (⟨j, h1, h2, h3⟩ | h3)
        · exact ⟨j, by omega, h2, h3⟩
        · exact ⟨k, by omega, h, h3⟩
      · rintro ⟨j, h1, h2, h3⟩
        by_cases e : j = k
        · subst e; exact Or.inr h3
        · exact Or.inl ⟨j, by omega, h2, h3⟩
    | false =>
      rw [if_neg Bool.false_ne_true, ih]
      constructor
      · rintro ⟨j, h1, h2, h3⟩
        exact ⟨j, by omega, h2, h3⟩
      · rintro ⟨j, h1, h2, h3⟩
        refine ⟨j, ?_, h2, h3⟩
        by_cases e : j = k
        · rw [e, h] at h2; cases h2
        · omega
theorem q_or_xor {a i : Nat} (h : a.testBit i = false) : a ||| 2 ^ i = a ^^^ 2 ^ i := by
  apply Nat.eq_of_testBit_eq
  intro j
  rw [Nat.testBit_or, Nat.testBit_xor, Nat.testBit_two_pow]
  by_cases e : i = j
  · subst e; simp [h]
  · simp [e]
theorem l_xb_bit : ∀ (rs : List Nat) (i : Nat), i < rs.length → l_xb rs (2 ^ i) = l_row rs i
  | r :: rs, i, h => by
    have h : i < rs.length + 1 := h
    simp only [l_xb, l_row, Nat.testBit_two_pow]
    by_cases e : i = rs.length
    · rw [if_pos e]
      simp only [e, decide_true, if_true]
      have : l_xb rs (2 ^ rs.length) = 0 := by
        have key : ∀ (rs : List Nat) (n : Nat), rs.length ≤ n → l_xb rs (2 ^ n) = 0 := by
          intro rs
          induction rs with
          | nil => intro n _; rfl
          | cons a as ih =>
            intro n hn
            have hn : as.length + 1 ≤ n := hn
            simp only [l_xb, Nat.testBit_two_pow]
            rw [if_neg (by simp; omega)]
            exact ih n (by omega)
        exact key rs _ (Nat.le_refl _)
      rw [this, Nat.zero_xor]
    · rw [if_neg e, if_neg (by simp [e])]
      exact l_xb_bit rs i (by omega)
theorem b_sel_xb {rs L : List Nat} (hL : L.Pairwise (· < ·)) (hm : ∀ x ∈ L, x < rs.length) {set k : Nat} (hk : k < L.length) (hs : set.testBit k = true) : l_xb rs (b_sel L set (k + 1)) = l_xb rs (b_sel L set k) ^^^ l_row rs (L.getD k 0) := by
  simp only [b_sel]
  rw [if_pos hs]
  have h0 : (b_sel L set k).testBit (L.getD k 0) = false := by
    cases h : (b_sel L set k).testBit (L.getD k 0) with
    | false => rfl
    | true =>
      obtain ⟨j, h1, h2, h3⟩ := (b_sel_bit L set _ k).mp h
      have := b_getD_lt hL h1 hk
      omega
  rw [q_or_xor h0, l_xb_xor, l_xb_bit rs _ (hm _ (b_getD_mem hk))]
theorem b_sel_ex {rs : List Nat} {c : Nat} (hc : l_le c (l_nw rs)) : b_sel (b_ix (l_nw rs) rs.length) (o_m (fun j => c.testBit ((b_ix (l_nw rs) rs.length).getD j 0)) (b_ix (l_nw rs) rs.length).length) (b_ix (l_nw rs) rs.length).length = c := by
  apply Nat.eq_of_testBit_eq
  intro i
  rw [Bool.eq_iff_iff, b_sel_bit]
  constructor
  · rintro ⟨j, h1, h2, h3⟩
    rw [o_m_bit, Bool.and_eq_true] at h2
    rw [← h3]
    exact h2.2
  · intro h
    have h1 := hc i h
    have h2 : i < rs.length := by
      rcases Nat.lt_or_ge i rs.length with q | q
      · exact q
      · rw [q_hi (l_nw_lt rs) q] at h1; cases h1
    obtain ⟨j, hj, hj2⟩ := List.getElem_of_mem (b_ix_mem.mpr ⟨h2, h1⟩)
    have h3 : (b_ix (l_nw rs) rs.length).getD j 0 = i := by
      rw [List.getD_eq_getElem?_getD, List.getElem?_eq_getElem hj]
      exact hj2
    exact ⟨j, hj, by rw [o_m_bit, decide_eq_true hj, h3, h]; rfl, h3⟩
def r_by (rs : List Nat) (p : Nat) : Int64 := if l_sp rs (2 ^ p) then lN (l_b rs p) else -1
theorem mm_byRows (d nl : Nat) (rs : List Nat) (hr : ∀ r ∈ rs, r < 1024) (h52 : rs.length ≤ 52) (I : zI) (J : zJ) (hR : knR rs I) (p : Nat) (hp : p < 10) : z_C yX4_byRows cX4_byRows 8 (some .long) d [.ref 17, .int (nI (2 ^ p))] (z_s nl) I J 0 0 (fun r h' I' J' => r = some (.long (r_by rs p)) ∧ h' = z_s nl ∧ (∀ q, q ≠ 30 → I' q = I q) ∧ J' = J) := by
  obtain ⟨r1, r2, r3⟩ := hR
  have hrk : (b_ix (l_nw rs) rs.length).length ≤ 10 := by rw [b_ix_len]; exact l_rk_le hr
  have hmem : ∀ x ∈ b_ix (l_nw rs) rs.length, x < rs.length ∧ (l_nw rs).testBit x = true := fun x h => b_ix_mem.mp h
  have hpw := b_ix_pw (l_nw rs) rs.length
  have hpp : 2 ^ p < 1024 := Nat.pow_lt_pow_right (n := 10) (by decide) hp
  have hrow := l_row_lt hr
  refine z_C.of (by decide) (Nat.le_of_ble_eq_true rfl) fun K E X => ?_
  have loop2 : ∀ k set, set + k = 2 ^ (b_ix (l_nw rs) rs.length).length → (∀ t, t < set → l_xb rs (b_sel (b_ix (l_nw rs) rs.length) t (b_ix (l_nw rs) rs.length).length) ≠ 2 ^ p) → ∀ I', (∀ j, j < (b_ix (l_nw rs) rs.length).length → I' 30 j = nI ((b_ix (l_nw rs) rs.length).getD j 0)) → (∀ q, q ≠ 30 → I' q = I q) → z_V K 42 [(0, .ref 17), (1, .int (nI (2 ^ p))), (2, .int (nI (b_ix (l_nw rs) rs.length).length)), (3, .int (nI set))] [] (z_s nl) I' J 0 0 := by
    generalize hL : b_ix (l_nw rs) rs.length = L at hrk hmem hpw
    have hn2 : 2 ^ L.length ≤ 1024 := Nat.pow_le_pow_right (n := 2) (by decide) hrk
    intro k
    induction k with
    | zero =>
      intro set hk hno I' hi hf
      refine v_iload_n E dX4_byRows_42 rfl ?_
      refine v_iconst (v := nI 1) E dX4_byRows_43 (by decide) ?_
      refine v_iload_n E dX4_byRows_44 rfl ?_
      refine v_ishlN E dX4_byRows_45 (by omega) ?_
      refine v_p2 ?_
      refine v_icmp_geN (tgt := 128) E dX4_byRows_46 (by decide) (by omega) (by omega) (fun c => ?_) (fun c => ?_)
      · refine v_ldc2_w E dX4_byRows_128 n_X4_133 ?_
        have e : l_sp rs (2 ^ p) = false := by
          cases h : l_sp rs (2 ^ p) with
          | false => rfl
          | true =>
            have hb := l_b_inv rs hr p hp
            have h0 := (l_f_out hr hp).mpr h
            rw [h0, Nat.xor_zero] at hb
            have he := b_sel_ex hb.1
            rw [hL] at he
            have := hno (o_m (fun j => (l_b rs p).testBit (L.getD j 0)) L.length) (by have := o_m_lt (fun j => (l_b rs p).testBit (L.getD j 0)) L.length; omega)
            rw [he] at this
            exact absurd hb.2 this
        exact v_lret E X dX4_byRows_131 ⟨by unfold r_by; rw [e]; rfl, rfl, hf, rfl⟩
      · exact absurd c (by omega)
    | succ k ih =>
      intro set hk hno I' hi hf
      refine v_iload_n E dX4_byRows_42 rfl ?_
      refine v_iconst (v := nI 1) E dX4_byRows_43 (by decide) ?_
      refine v_iload_n E dX4_byRows_44 rfl ?_
      refine v_ishlN E dX4_byRows_45 (by omega) ?_
      refine v_p2 ?_
      refine v_icmp_geN (tgt := 128) E dX4_byRows_46 (by decide) (by omega) (by omega) (fun c => ?_) (fun c => ?_)
      · exact absurd c (by omega)
      · refine v_iconst (v := nI 0) E dX4_byRows_49 (by decide) ?_
        refine v_istore E dX4_byRows_50 (by decide) ?_
        refine v_lconst (v := lN 0) E dX4_byRows_52 (by decide) ?_
        refine v_lstore E dX4_byRows_53 (by decide) ?_
        refine v_iconst (v := nI 0) E dX4_byRows_55 (by decide) ?_
        refine v_istore E dX4_byRows_56 (by decide) ?_
        have inner : ∀ j, j ≤ L.length → z_V K 58 [(0, .ref 17), (1, .int (nI (2 ^ p))), (2, .int (nI L.length)), (3, .int (nI set)), (4, .int (nI (l_xb rs (b_sel L set j)))), (5, .long (lN (b_sel L set j))), (7, .int (nI j))] [] (z_s nl) I' J 0 0 := by
          refine z_for L.length ?_ (fun j hj ih2 => ?_)
          · refine v_iload E dX4_byRows_58 rfl ?_
            refine v_iload_n E dX4_byRows_60 rfl ?_
            refine v_icmp_geN (tgt := 113) E dX4_byRows_61 (by decide) (by omega) (by omega) (fun c2 => ?_) (fun c2 => ?_)
            · have hx : l_xb rs (b_sel L set L.length) < 1024 := l_sp_lt (n := 10) hr (l_xb_sp rs _)
              refine v_iload E dX4_byRows_113 rfl ?_
              refine v_iload_n E dX4_byRows_115 rfl ?_
              refine v_icmp_neN (tgt := 122) E dX4_byRows_116 (by decide) (by omega) (by omega) (fun c3 => ?_) (fun c3 => ?_)
              · refine v_inc E dX4_byRows_122 rfl (by decide) ?_
                refine v_goto (tgt := 42) E dX4_byRows_125 (by decide) ?_
                refine v_ls (ls2 := [(0, .ref 17), (1, .int (nI (2 ^ p))), (2, .int (nI L.length)), (3, .int (nI (set + 1)))]) (by intro q hq; simp only [List.mem_cons, List.not_mem_nil, or_false] at hq; rcases hq with rfl | rfl | rfl | rfl <;> rfl) ?_
                exact ih (set + 1) (by omega) (fun t ht => by
                  by_cases e : t = set
                  · subst e; exact c3
                  · exact hno t (by omega)) I' hi hf
              · refine v_lload E dX4_byRows_119 rfl ?_
                have hs : l_sp rs (2 ^ p) = true := by rw [← c3]; exact l_xb_sp rs _
                have hle : l_le (b_sel L set L.length) (l_nw rs) := by
                  intro x hx
                  obtain ⟨j, h1, h2, h3⟩ := (b_sel_bit L set x L.length).mp hx
                  rw [← h3]
                  exact (hmem _ (b_getD_mem h1)).2
                have hu := l_b_uniq hr hp hs hle c3
                exact v_lret E X dX4_byRows_121 ⟨by unfold r_by; rw [hs, hu]; rfl, rfl, hf, rfl⟩
            · exact absurd c2 (by omega)
          · have hj2 := (hmem _ (b_getD_mem hj)).1
            refine v_iload E dX4_byRows_58 rfl ?_
            refine v_iload_n E dX4_byRows_60 rfl ?_
            refine v_icmp_geN (tgt := 113) E dX4_byRows_61 (by decide) (by omega) (by omega) (fun c2 => ?_) (fun c2 => ?_)
            · exact absurd c2 (by omega)
            · refine v_iload_n E dX4_byRows_64 rfl ?_
              refine v_iload E dX4_byRows_65 rfl ?_
              refine v_ishrN E dX4_byRows_67 (by omega) (by omega) ?_
              refine v_iconst (v := nI 1) E dX4_byRows_68 (by decide) ?_
              refine v_iandN E dX4_byRows_69 ?_
              refine v_tb ?_
              refine v_if_neB (tgt := 76) E dX4_byRows_70 (by decide)  (fun c3 => ?_) (fun c3 => ?_)
              · have e : b_sel L set (j + 1) = b_sel L set j ||| 2 ^ L.getD j 0 := by simp only [b_sel]; rw [if_pos c3]
                have e2 := b_sel_xb (rs := rs) hpw (fun x hx => (hmem x hx).1) hj c3
                rw [e2, e] at ih2
                refine v_iload E dX4_byRows_76 rfl ?_
                refine v_aload_n E dX4_byRows_78 rfl ?_
                refine v_getR E f_X4_46 dX4_byRows_79 rfl rfl rfl ?_
                refine v_aload_n E dX4_byRows_82 rfl ?_
                refine v_getR E f_X4_64 dX4_byRows_83 rfl rfl rfl ?_
                refine v_iload E dX4_byRows_86 rfl ?_
                refine v_ialoadE E dX4_byRows_88 rfl rfl (by omega) (by decide) (hi j hj) ?_
                refine v_ialoadE E dX4_byRows_89 rfl rfl (by omega) (by decide) ((congrFun (hf 26 (by decide)) _).trans (r3 _ hj2).1) ?_
                refine v_ixorN E dX4_byRows_90 ?_
                refine v_istore E dX4_byRows_91 (by decide) ?_
                refine v_lload E dX4_byRows_93 rfl ?_
                refine v_lconst (v := lN 1) E dX4_byRows_95 (by decide) ?_
                refine v_aload_n E dX4_byRows_96 rfl ?_
                refine v_getR E f_X4_64 dX4_byRows_97 rfl rfl rfl ?_
                refine v_iload E dX4_byRows_100 rfl ?_
                refine v_ialoadE E dX4_byRows_102 rfl rfl (by omega) (by decide) (hi j hj) ?_
                refine v_lshlN E dX4_byRows_103 (by omega) ?_
                refine v_topl (show lN (1 * 2 ^ L.getD j 0) = lN (2 ^ L.getD j 0) by rw [Nat.one_mul]) ?_
                refine v_lorN E dX4_byRows_104 ?_
                refine v_lstore E dX4_byRows_105 (by decide) ?_
                refine v_inc E dX4_byRows_107 rfl (by decide) ?_
                refine v_goto (tgt := 58) E dX4_byRows_110 (by decide) ?_
                exact ih2
              · have e : b_sel L set (j + 1) = b_sel L set j := by simp only [b_sel]; rw [c3]; rfl
                rw [e] at ih2
                refine v_goto (tgt := 107) E dX4_byRows_73 (by decide) ?_
                refine v_inc E dX4_byRows_107 rfl (by decide) ?_
                refine v_goto (tgt := 58) E dX4_byRows_110 (by decide) ?_
                exact ih2
        have i0 := inner 0 (by omega)
        have e0 : l_xb rs (b_sel L set 0) = 0 := l_xb_0 rs
        rw [e0] at i0
        exact i0
  have loop1 : ∀ k, k ≤ rs.length → ∀ I', (∀ j, j < (b_ix (l_nw rs) k).length → I' 30 j = nI ((b_ix (l_nw rs) k).getD j 0)) → (∀ q, q ≠ 30 → I' q = I q) → z_V K 4 [(0, .ref 17), (1, .int (nI (2 ^ p))), (2, .int (nI (b_ix (l_nw rs) k).length)), (3, .int (nI k))] [] (z_s nl) I' J 0 0 := by
    refine z_for rs.length ?_ (fun k hk ih => ?_)
    · intro I' hi hf
      refine v_iload_n E dX4_byRows_4 rfl ?_
      refine v_aload_n E dX4_byRows_5 rfl ?_
      refine v_getIE E f_X4_52 dX4_byRows_6 rfl rfl ((congrFun (hf 17 (by decide)) _).trans r1) ?_
      refine v_icmp_geN (tgt := 40) E dX4_byRows_9 (by decide) (by omega) (by omega) (fun c => ?_) (fun c => ?_)
      · refine v_iconst (v := nI 0) E dX4_byRows_40 (by decide) ?_
        refine v_istore_n E dX4_byRows_41 (by decide) ?_
        exact loop2 (2 ^ (b_ix (l_nw rs) rs.length).length) 0 (by omega) (fun t ht => absurd ht (Nat.not_lt_zero t)) I' hi hf
      · exact absurd c (by omega)
    · intro I' hi hf
      refine v_iload_n E dX4_byRows_4 rfl ?_
      refine v_aload_n E dX4_byRows_5 rfl ?_
      refine v_getIE E f_X4_52 dX4_byRows_6 rfl rfl ((congrFun (hf 17 (by decide)) _).trans r1) ?_
      refine v_icmp_geN (tgt := 40) E dX4_byRows_9 (by decide) (by omega) (by omega) (fun c => ?_) (fun c => ?_)
      · exact absurd c (by omega)
      · refine v_aload_n E dX4_byRows_12 rfl ?_
        refine v_getR E f_X4_49 dX4_byRows_13 rfl rfl rfl ?_
        refine v_iload_n E dX4_byRows_16 rfl ?_
        refine v_baloadE E dX4_byRows_17 rfl rfl (by omega) (by decide) ((congrFun (hf 27 (by decide)) _).trans (r3 k hk).2) ?_
        refine v_if_neB (tgt := 24) E dX4_byRows_18 (by decide)  (fun c2 => ?_) (fun c2 => ?_)
        · have e : b_ix (l_nw rs) (k + 1) = b_ix (l_nw rs) k ++ [k] := by simp only [b_ix]; rw [if_pos c2]
          have hlen : (b_ix (l_nw rs) k).length < 10 := by
            have h1 := b_ix_mono (l_nw rs) (rs.length - (k + 1)) (k + 1)
            rw [show k + 1 + (rs.length - (k + 1)) = rs.length by omega, e] at h1
            simp only [List.length_append, List.length_cons, List.length_nil] at h1
            omega
          have e3 : (b_ix (l_nw rs) (k + 1)).length = (b_ix (l_nw rs) k).length + 1 := by rw [e]; simp
          refine v_aload_n E dX4_byRows_24 rfl ?_
          refine v_getR E f_X4_64 dX4_byRows_25 rfl rfl rfl ?_
          refine v_iload_n E dX4_byRows_28 rfl ?_
          refine v_iload_n E dX4_byRows_29 rfl ?_
          refine v_iastore E dX4_byRows_30 rfl rfl (by omega) (by decide) ?_
          refine v_inc E dX4_byRows_31 rfl (by decide) ?_
          refine v_inc E dX4_byRows_34 rfl (by decide) ?_
          refine v_goto (tgt := 4) E dX4_byRows_37 (by decide) ?_
          have i1 := ih (z_u I' 30 (b_ix (l_nw rs) k).length (nI k)) (fun j hj => by
            rw [e]
            rw [e3] at hj
            by_cases e4 : j = (b_ix (l_nw rs) k).length
            · subst e4
              rw [z_u_same, List.getD_eq_getElem?_getD, List.getElem?_append_right (Nat.le_refl _), Nat.sub_self]
              rfl
            · rw [z_u_col e4, hi j (by omega), List.getD_eq_getElem?_getD, List.getD_eq_getElem?_getD, List.getElem?_append_left (by omega)]) (fun q hq => by rw [z_u_row hq]; exact hf q hq)
          rw [e3] at i1
          exact i1
        · have e : b_ix (l_nw rs) (k + 1) = b_ix (l_nw rs) k := by simp only [b_ix]; rw [c2]; rfl
          rw [e] at ih
          refine v_goto (tgt := 34) E dX4_byRows_21 (by decide) ?_
          refine v_inc E dX4_byRows_34 rfl (by decide) ?_
          refine v_goto (tgt := 4) E dX4_byRows_37 (by decide) ?_
          exact ih I' hi hf
  refine v_iconst (v := nI 0) E dX4_byRows_0 (by decide) ?_
  refine v_istore_n E dX4_byRows_1 (by decide) ?_
  refine v_iconst (v := nI 0) E dX4_byRows_2 (by decide) ?_
  refine v_istore_n E dX4_byRows_3 (by decide) ?_
  exact loop1 0 (by omega) I (fun j hj => absurd hj (Nat.not_lt_zero j)) (fun q _ => rfl)
theorem mS.f30 {I I' : zI} (h : ∀ q, q ≠ 30 → I' q = I q) : mS I I' := ⟨fun q a b => h q (by omega), fun k _ => by rw [h 17 (by decide)]⟩
theorem s_len52 {s : zS} (hw : s_wf s) (l : Nat) : (s_rows s l).length ≤ 52 := by
  have hlen := s_rows_len hw l (s_nc s)
  have h12 := hw.2.2.2.2.2.1 l
  have w3 := hw.2.2.1
  show (s_rowsAt s l (s_nc s)).length ≤ 52
  omega
theorem mm_why (d nl : Nat) (s : zS) (hw : s_wf s) (I : zI) (J : zJ) (hm : mI s I J) (x y : Int32) : z_C yX4_why cX4_why 3 (some .long) (d + 2) [.ref 17, .int x, .int y] (z_s nl) I J 0 0 (mR (.long (r_why s x y)) nl I J) := by
  have w1 := hw.1
  have w2 := hw.2.1
  refine z_C.of (by decide) (Nat.le_of_ble_eq_true rfl) fun K E X => ?_
  have no : s_hwo s x y = false → z_V K 16 [(0, .ref 17), (1, .int x), (2, .int y)] [] (z_s nl) I J 0 0 := by
    intro e
    refine v_ldc2_w E dX4_why_16 n_X4_133 ?_
    exact v_lret E X dX4_why_19 (mR.l (by unfold r_why; rw [e]; rfl) (mS.rf I))
  refine v_aload_n E dX4_why_0 rfl ?_
  refine v_iload_n E dX4_why_1 rfl ?_
  refine v_callV1 E dX4_why_2 k_X4_92 Y_X4_isListener (mm_isListener (d + 1) nl I J hm.2.1 x) rfl rfl rfl (Nat.le_of_ble_eq_true rfl) ?_
  refine v_if_eqB (tgt := 16) E dX4_why_5 (by decide)  (fun e1 => ?_) (fun e1 => ?_)
  · exact no (by unfold s_hwo; rw [e1]; rfl)
  · refine v_aload_n E dX4_why_8 rfl ?_
    refine v_iload_n E dX4_why_9 rfl ?_
    refine v_callV1 E dX4_why_10 k_X4_88 Y_X4_isPiece (mm_isPiece (d + 1) nl I J hm.1 y) rfl rfl rfl (Nat.le_of_ble_eq_true rfl) ?_
    refine v_if_neB (tgt := 20) E dX4_why_13 (by decide)  (fun e2 => ?_) (fun e2 => ?_)
    · have f1 := e1
      have f2 := e2
      obtain ⟨l, hl, rfl⟩ := z_isx_true (by omega) e1
      obtain ⟨p, hp, rfl⟩ := z_isx_true (by omega) e2
      have hv : r_by (s_rows s l) p = r_why s (nI l) (nI p) := by
        unfold r_why s_hwo
        rw [f1, f2, nI_clamp (by omega), nI_clamp (by omega)]
        rfl
      refine v_aload_n E dX4_why_20 rfl ?_
      refine v_iload_n E dX4_why_21 rfl ?_
      refine v_callV E dX4_why_22 k_X4_120 Y_X4_know (mm_know d nl s hw I J hm l hl) rfl rfl rfl (Nat.le_of_ble_eq_true rfl) ?_
      rintro r h' I' J' ⟨rfl, rfl, g1, g2, g3, rfl⟩
      refine v_aload_n E dX4_why_25 rfl ?_
      refine v_iconst (v := nI 1) E dX4_why_26 (by decide) ?_
      refine v_iload_n E dX4_why_27 rfl ?_
      refine v_ishlN E dX4_why_28 (by omega) ?_
      refine v_p2 ?_
      refine v_callV E dX4_why_29 k_X4_135 Y_X4_byRows (mm_byRows (d + 1) nl (s_rows s l) (s_rows_1024 hw l (Nat.le_refl _)) (s_len52 hw l) I' J' g1 p (by omega)) rfl rfl rfl (Nat.le_of_ble_eq_true rfl) ?_
      rintro r h' I2 J2 ⟨rfl, rfl, k1, rfl⟩
      exact v_lret E X dX4_why_32 (mR.l hv (g3.mS.tr (mS.f30 k1)))
    · exact no (by unfold s_hwo; rw [e1, e2]; rfl)
theorem lg_lN0 {b : Nat} (h : b < 2 ^ 62) : ¬ lg_cmp (lN b) (lN 0) < 0 := by
  rw [lg_cmp_lt, Int64.lt_iff_toInt_lt]
  have h1 : (lN b).toInt = (b : Int) := lg_ofNat_toInt (by omega)
  have h2 : (lN 0).toInt = 0 := by decide
  rw [h1, h2]
  omega
theorem lg_bit1 (b : Bool) : lg_cmp (lN b.toNat) (lN 1) = 0 ↔ b = true := by cases b <;> decide
theorem mm_gets (d nl : Nat) (s : zS) (hw : s_wf s) (I : zI) (J : zJ) (hm : mI s I J) (x y : Int32) : z_C yX4_gets cX4_gets 8 (some .long) (d + 2) [.ref 17, .int x, .int y] (z_s nl) I J 0 0 (mR (.long (r_gets s x y)) nl I J) := by
  have w1 := hw.1
  have w2 := hw.2.1
  refine z_C.of (by decide) (Nat.le_of_ble_eq_true rfl) fun K E X => ?_
  have no : s_hwo s x y = false → z_V K 16 [(0, .ref 17), (1, .int x), (2, .int y)] [] (z_s nl) I J 0 0 := by
    intro e
    refine v_lconst (v := lN 0) E dX4_gets_16 (by decide) ?_
    exact v_lret E X dX4_gets_17 (mR.l (by unfold r_gets; rw [e]; rfl) (mS.rf I))
  refine v_aload_n E dX4_gets_0 rfl ?_
  refine v_iload_n E dX4_gets_1 rfl ?_
  refine v_callV1 E dX4_gets_2 k_X4_92 Y_X4_isListener (mm_isListener (d + 1) nl I J hm.2.1 x) rfl rfl rfl (Nat.le_of_ble_eq_true rfl) ?_
  refine v_if_eqB (tgt := 16) E dX4_gets_5 (by decide)  (fun e1 => ?_) (fun e1 => ?_)
  · exact no (by unfold s_hwo; rw [e1]; rfl)
  · refine v_aload_n E dX4_gets_8 rfl ?_
    refine v_iload_n E dX4_gets_9 rfl ?_
    refine v_callV1 E dX4_gets_10 k_X4_88 Y_X4_isPiece (mm_isPiece (d + 1) nl I J hm.1 y) rfl rfl rfl (Nat.le_of_ble_eq_true rfl) ?_
    refine v_if_neB (tgt := 18) E dX4_gets_13 (by decide)  (fun e2 => ?_) (fun e2 => ?_)
    · have f1 := e1
      have f2 := e2
      obtain ⟨l, hl, rfl⟩ := z_isx_true (by omega) e1
      obtain ⟨p, hp, rfl⟩ := z_isx_true (by omega) e2
      have h52 := s_len52 hw l
      have h1024 : ∀ r ∈ s_rows s l, r < 1024 := s_rows_1024 hw l (Nat.le_refl (s_nc s))
      have hrow := l_row_lt h1024
      have hv : r_gets s (nI l) (nI p) = if l_sp (s_rows s l) (2 ^ p) then q_gets (s_pv s) (s_rows s l) (s_np s) (l_b (s_rows s l) p) (s_rows s l).length else lN 0 := by
        unfold r_gets s_hwo
        rw [f1, f2, nI_clamp (by omega), nI_clamp (by omega)]
        rfl
      refine v_aload_n E dX4_gets_18 rfl ?_
      refine v_iload_n E dX4_gets_19 rfl ?_
      refine v_callV E dX4_gets_20 k_X4_120 Y_X4_know (mm_know d nl s hw I J hm l hl) rfl rfl rfl (Nat.le_of_ble_eq_true rfl) ?_
      rintro r h' I' J' ⟨rfl, rfl, g1, g2, g3, rfl⟩
      refine v_aload_n E dX4_gets_23 rfl ?_
      refine v_iconst (v := nI 1) E dX4_gets_24 (by decide) ?_
      refine v_iload_n E dX4_gets_25 rfl ?_
      refine v_ishlN E dX4_gets_26 (by omega) ?_
      refine v_p2 ?_
      refine v_callV E dX4_gets_27 k_X4_135 Y_X4_byRows (mm_byRows (d + 1) nl (s_rows s l) h1024 h52 I' J' g1 p (by omega)) rfl rfl rfl (Nat.le_of_ble_eq_true rfl) ?_
      rintro r h' I2 J2 ⟨rfl, rfl, k1, rfl⟩
      have hS := g3.mS.tr (mS.f30 k1)
      have hmi := hS.mI hm
      have i13 := (congrFun (k1 17 (by decide)) 13).trans g1.1
      refine v_lstore_n E dX4_gets_30 (by decide) ?_
      refine v_lconst (v := lN 0) E dX4_gets_31 (by decide) ?_
      refine v_lstore E dX4_gets_32 (by decide) ?_
      refine v_iconst (v := nI 0) E dX4_gets_34 (by decide) ?_
      refine v_istore E dX4_gets_35 (by decide) ?_
      cases ho : l_sp (s_rows s l) (2 ^ p) with
      | true =>
        rw [ho] at hv
        have hv : r_gets s (nI l) (nI p) = q_gets (s_pv s) (s_rows s l) (s_np s) (l_b (s_rows s l) p) (s_rows s l).length := hv
        have hby : r_by (s_rows s l) p = lN (l_b (s_rows s l) p) := by unfold r_by; rw [ho]; rfl
        rw [hby]
        have hbl : l_b (s_rows s l) p < 2 ^ 62 := Nat.lt_of_lt_of_le (l_b_lt h1024 (by omega)) (Nat.pow_le_pow_right (by decide) (by omega))
        have loop : ∀ k, k ≤ (s_rows s l).length → z_V K 37 [(0, .ref 17), (1, .int (nI l)), (2, .int (nI p)), (3, .long (lN (l_b (s_rows s l) p))), (5, .long (q_gets (s_pv s) (s_rows s l) (s_np s) (l_b (s_rows s l) p) k)), (7, .int (nI k))] [] (z_s nl) I2 J2 0 0 := by
          refine z_for _ ?_ (fun k hk ih => ?_)
          · refine v_iload E dX4_gets_37 rfl ?_
            refine v_aload_n E dX4_gets_39 rfl ?_
            refine v_getIE E f_X4_52 dX4_gets_40 rfl rfl i13 ?_
            refine v_icmp_geN (tgt := 85) E dX4_gets_43 (by decide) (by omega) (by omega) (fun c => ?_) (fun c => ?_)
            · refine v_lload E dX4_gets_85 rfl ?_
              exact v_lret E X dX4_gets_87 (mR.l hv.symm hS)
            · exact absurd c (by omega)
          · refine v_iload E dX4_gets_37 rfl ?_
            refine v_aload_n E dX4_gets_39 rfl ?_
            refine v_getIE E f_X4_52 dX4_gets_40 rfl rfl i13 ?_
            refine v_icmp_geN (tgt := 85) E dX4_gets_43 (by decide) (by omega) (by omega) (fun c => ?_) (fun c => ?_)
            · exact absurd c (by omega)
            · refine v_lload_n E dX4_gets_46 rfl ?_
              refine v_lconst (v := lN 0) E dX4_gets_47 (by decide) ?_
              refine v_lcmp E dX4_gets_48 ?_
              refine v_if_lt (tgt := 85) E dX4_gets_49 (by decide)  (fun c1 => ?_) (fun c1 => ?_)
              · exact absurd c1 (lg_lN0 hbl)
              · refine v_lload_n E dX4_gets_52 rfl ?_
                refine v_iload E dX4_gets_53 rfl ?_
                refine v_lshrN E dX4_gets_55 hbl (by omega) ?_
                refine v_lconst (v := lN 1) E dX4_gets_56 (by decide) ?_
                refine v_landN E dX4_gets_57 ?_
                refine v_topl (show lN (l_b (s_rows s l) p / 2 ^ k &&& 1) = lN ((l_b (s_rows s l) p).testBit k).toNat by rw [q_a1, q_tbn]) ?_
                refine v_lconst (v := lN 1) E dX4_gets_58 (by decide) ?_
                refine v_lcmp E dX4_gets_59 ?_
                have e3 : q_gets (s_pv s) (s_rows s l) (s_np s) (l_b (s_rows s l) p) (k + 1) = if (l_b (s_rows s l) p).testBit k then q_gets (s_pv s) (s_rows s l) (s_np s) (l_b (s_rows s l) p) k ^^^ q_sum (s_pv s) (l_row (s_rows s l) k) (s_np s) else q_gets (s_pv s) (s_rows s l) (s_np s) (l_b (s_rows s l) p) k := rfl
                refine v_if_ne (tgt := 79) E dX4_gets_60 (by decide)  (fun c2 => ?_) (fun c2 => ?_)
                · rw [if_neg (fun z => c2 ((lg_bit1 _).mpr z))] at e3
                  rw [e3] at ih
                  refine v_inc E dX4_gets_79 rfl (by decide) ?_
                  refine v_goto (tgt := 37) E dX4_gets_82 (by decide) ?_
                  exact ih
                · rw [if_pos ((lg_bit1 _).mp c2)] at e3
                  rw [e3] at ih
                  refine v_lload E dX4_gets_63 rfl ?_
                  refine v_aload_n E dX4_gets_65 rfl ?_
                  refine v_aload_n E dX4_gets_66 rfl ?_
                  refine v_getR E f_X4_46 dX4_gets_67 rfl rfl rfl ?_
                  refine v_iload E dX4_gets_70 rfl ?_
                  refine v_ialoadE E dX4_gets_72 rfl rfl (by omega) (by decide) ((congrFun (k1 26 (by decide)) _).trans (g1.2.2 k hk).1) ?_
                  refine v_callV1 E dX4_gets_73 k_X4_112 Y_X4_sumOf (mm_sumOf (d + 1) nl s hw I2 J2 hmi (l_row (s_rows s l) k) (hrow k)) rfl rfl rfl (Nat.le_of_ble_eq_true rfl) ?_
                  refine v_lxor E dX4_gets_76 ?_
                  refine v_lstore E dX4_gets_77 (by decide) ?_
                  refine v_inc E dX4_gets_79 rfl (by decide) ?_
                  refine v_goto (tgt := 37) E dX4_gets_82 (by decide) ?_
                  exact ih
        exact loop 0 (by omega)
      | false =>
        rw [ho] at hv
        have hv : r_gets s (nI l) (nI p) = lN 0 := hv
        have hby : r_by (s_rows s l) p = -1 := by unfold r_by; rw [ho]; rfl
        rw [hby]
        refine v_iload E dX4_gets_37 rfl ?_
        refine v_aload_n E dX4_gets_39 rfl ?_
        refine v_getIE E f_X4_52 dX4_gets_40 rfl rfl i13 ?_
        refine v_icmp_geN (tgt := 85) E dX4_gets_43 (by decide) (by omega) (by omega) (fun c => ?_) (fun c => ?_)
        · refine v_lload E dX4_gets_85 rfl ?_
          exact v_lret E X dX4_gets_87 (mR.l hv.symm hS)
        · refine v_lload_n E dX4_gets_46 rfl ?_
          refine v_lconst (v := lN 0) E dX4_gets_47 (by decide) ?_
          refine v_lcmp E dX4_gets_48 ?_
          refine v_if_lt (tgt := 85) E dX4_gets_49 (by decide)  (fun c1 => ?_) (fun c1 => ?_)
          · refine v_lload E dX4_gets_85 rfl ?_
            exact v_lret E X dX4_gets_87 (mR.l hv.symm hS)
          · exact absurd (by decide) c1
    · exact no (by unfold s_hwo; rw [e1, e2]; rfl)
