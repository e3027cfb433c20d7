/-! THE MODEL: what a listener knows -/
def knR (rs : List Nat) (I : zI) : Prop := I 17 13 = nI rs.length ∧ I 17 14 = nI (l_rk rs) ∧ ∀ k, k < rs.length → I 26 k = nI (l_row rs k) ∧ I 27 k = nI ((l_nw rs).testBit k).toNat
def knO (l : Nat) (rs : List Nat) (I : zI) : Prop := ∀ m, m < 1024 → I 28 (1024 * l + m) = nI (l_sp rs m).toNat
def tkF (l : Nat) (I I' : zI) : Prop := (∀ q, q ≠ 17 → (q < 26 ∨ 29 < q) → I' q = I q) ∧ (∀ k, k ≠ 13 → k ≠ 14 → I' 17 k = I 17 k) ∧ ∀ j, (j < 1024 * l ∨ 1024 * l + 1024 ≤ j) → I' 28 j = I 28 j
theorem tkF.rf (l : Nat) (I : zI) : tkF l I I := ⟨fun _ _ _ => rfl, fun _ _ _ => rfl, fun _ _ => rfl⟩
theorem tkF.tr {l : Nat} {I I' I2 : zI} (h : tkF l I I') (h2 : tkF l I' I2) : tkF l I I2 := ⟨fun q a b => by rw [h2.1 q a b, h.1 q a b], fun k a b => by rw [h2.2.1 k a b, h.2.1 k a b], fun j a => by rw [h2.2.2 j a, h.2.2 j a]⟩
theorem tkF.mS {l : Nat} {I I' : zI} (h : tkF l I I') : mS I I' := ⟨fun q a b => h.1 q b (by omega), fun k a => h.2.1 k (by omega) (by omega)⟩
/-- while a row is being taken -/
def tkA (I : zI) (rs : List Nat) (I' : zI) : Prop := I' 17 13 = nI (rs.length - 1) ∧ I' 17 14 = nI (l_rk rs) ∧ (∀ k, k < rs.length → I' 26 k = nI (l_row rs k) ∧ I' 27 k = nI ((l_nw rs).testBit k).toNat) ∧ (∀ q, q ≠ 17 → (q < 26 ∨ 29 < q) → I' q = I q) ∧ ∀ k, k ≠ 13 → k ≠ 14 → I' 17 k = I 17 k
theorem tkA.up {I I' : zI} {rs : List Nat} {q j : Nat} {v : Int32} (hq : q = 28 ∨ q = 29) (h : tkA I rs I') : tkA I rs (z_u I' q j v) := by
  obtain ⟨a1, a2, a3, a4, a5⟩ := h
  refine ⟨?_, ?_, fun k hk => ⟨?_, ?_⟩, fun r h1 h2 => ?_, fun k h1 h2 => ?_⟩
  · rw [z_u_row (by omega)]; exact a1
  · rw [z_u_row (by omega)]; exact a2
  · rw [z_u_row (by omega)]; exact (a3 k hk).1
  · rw [z_u_row (by omega)]; exact (a3 k hk).2
  · rw [z_u_row (by omega)]; exact a4 r h1 h2
  · rw [z_u_row (by omega)]; exact a5 k h1 h2
theorem l_nw_top (rs : List Nat) : (l_nw rs).testBit rs.length = false := q_hi (l_nw_lt rs) (Nat.le_refl _)
theorem l_nw_cons (m : Nat) (rs : List Nat) (k : Nat) : (l_nw (m :: rs)).testBit k = if k = rs.length then !l_sp rs m else (l_nw rs).testBit k := by
  simp only [l_nw]
  by_cases e : k = rs.length
  · subst e
    rw [if_pos rfl]
    cases h : l_sp rs m with
    | true => simp [l_nw_top]
    | false => simp [Nat.testBit_or, Nat.testBit_two_pow]
  · rw [if_neg e]
    cases h : l_sp rs m with
    | true => rfl
    | false => simp [Nat.testBit_or, Nat.testBit_two_pow, Ne.symm e]
theorem q_xlt {a b : Nat} (ha : a < 1024) (hb : b < 1024) : a ^^^ b < 1024 := q_xor_lt (k := 10) ha hb
theorem mm_take (d nl : Nat) (rs : List Nat) (I : zI) (J : zJ) (hR : knR rs I) (l : Nat) (hl : l < 10) (hO : knO l rs I) (h56 : rs.length < 56) (m : Nat) (hm : m < 1024) : z_C yX4_take cX4_take 4 none d [.ref 17, .int (nI l), .int (nI m)] (z_s nl) I J 0 0 (fun r h' I' J' => r = none ∧ h' = z_s nl ∧ knR (m :: rs) I' ∧ knO l (m :: rs) I' ∧ tkF l I I' ∧ J' = J) := by
  obtain ⟨r1, r2, r3⟩ := hR
  refine z_C.of (by decide) (Nat.le_of_ble_eq_true rfl) fun K E X => ?_
  have fin : ∀ I', tkA I (m :: rs) I' → knO l (m :: rs) I' → (∀ j, (j < 1024 * l ∨ 1024 * l + 1024 ≤ j) → I' 28 j = I 28 j) → z_V K 133 [(0, .ref 17), (1, .int (nI l)), (2, .int (nI m))] [] (z_s nl) I' J 0 0 := by
    rintro I' ⟨a1, a2, a3, a4, a5⟩ o1 o2
    refine v_aload_n E dX4_take_133 rfl ?_
    refine v_dup E dX4_take_134 rfl ?_
    refine v_getIE E f_X4_52 dX4_take_135 rfl rfl a1 ?_
    refine v_iconst (v := nI 1) E dX4_take_138 (by decide) ?_
    refine v_iaddN E dX4_take_139 ?_
    refine v_putI E f_X4_52 dX4_take_140 rfl rfl rfl rfl (by decide) ?_
    refine v_vret E X dX4_take_143 ⟨rfl, rfl, ⟨z_u_same, ?_, fun k hk => ⟨?_, ?_⟩⟩, fun j hj => ?_, ⟨fun q q1 q2 => ?_, fun k k1 k2 => ?_, fun j hj => ?_⟩, rfl⟩
    · rw [z_u_col (by decide)]; exact a2
    · rw [z_u_row (by decide)]; exact (a3 k hk).1
    · rw [z_u_row (by decide)]; exact (a3 k hk).2
    · rw [z_u_row (by decide)]; exact o1 j hj
    · rw [z_u_row q1]; exact a4 q q1 q2
    · rw [z_u_col k1]; exact a5 k k1 k2
    · rw [z_u_row (by decide)]; exact o2 j hj
  have mid : z_V K 38 [(0, .ref 17), (1, .int (nI l)), (2, .int (nI m))] [.int (nI (!l_sp rs m).toNat), .int (nI rs.length), .ref 27] (z_s nl) (z_u I 26 rs.length (nI m)) J 0 0 := by
    refine v_bastore E dX4_take_38 rfl rfl (by omega) (by decide) (q_b01 _) ?_
    refine v_aload_n E dX4_take_39 rfl ?_
    refine v_getR E f_X4_49 dX4_take_40 rfl rfl rfl ?_
    refine v_aload_n E dX4_take_43 rfl ?_
    refine v_getIE E f_X4_52 dX4_take_44 rfl rfl (z_ur (by decide) (z_ur (by decide) r1)) ?_
    refine v_baloadE E dX4_take_47 rfl rfl (by omega) (by decide) z_u_same ?_
    have aR : ∀ k, k < (m :: rs).length → z_u (z_u I 26 rs.length (nI m)) 27 rs.length (nI (!l_sp rs m).toNat) 26 k = nI (l_row (m :: rs) k) ∧ z_u (z_u I 26 rs.length (nI m)) 27 rs.length (nI (!l_sp rs m).toNat) 27 k = nI ((l_nw (m :: rs)).testBit k).toNat := by
      intro k hk
      have hk : k < rs.length + 1 := hk
      rw [z_u_row (by decide), l_nw_cons]
      simp only [l_row]
      by_cases e : k = rs.length
      · subst e
        rw [z_u_same, z_u_same, if_pos rfl, if_pos rfl]
        exact ⟨rfl, rfl⟩
      · rw [z_u_col e, z_u_col e, if_neg e, if_neg e, z_u_row (by decide)]
        exact r3 k (by omega)
    refine v_if_eqB (tgt := 133) E dX4_take_48 (by decide)  (fun c => ?_) (fun c => ?_)
    · have hs : l_sp rs m = true := by rw [Bool.not_eq_false'] at c; exact c
      refine fin _ ⟨?_, ?_, aR, fun q q1 q2 => ?_, fun k k1 k2 => ?_⟩ (fun j hj => ?_) (fun j hj => ?_)
      · rw [z_u_row (by decide), z_u_row (by decide)]; exact r1
      · rw [z_u_row (by decide), z_u_row (by decide), r2]; simp only [l_rk, hs, if_true]
      · rw [z_u_row (by omega), z_u_row (by omega)]
      · rw [z_u_row (by decide), z_u_row (by decide)]
      · rw [z_u_row (by decide), z_u_row (by decide), hO j hj, l_sp_old hs]
      · rw [z_u_row (by decide), z_u_row (by decide)]
    · have hs : l_sp rs m = false := by rw [Bool.not_eq_true'] at c; exact c
      refine v_aload_n E dX4_take_51 rfl ?_
      refine v_dup E dX4_take_52 rfl ?_
      refine v_getIE E f_X4_55 dX4_take_53 rfl rfl (z_ur (by decide) (z_ur (by decide) r2)) ?_
      refine v_iconst (v := nI 1) E dX4_take_56 (by decide) ?_
      refine v_iaddN E dX4_take_57 ?_
      refine v_putI E f_X4_55 dX4_take_58 rfl rfl rfl rfl (by decide) ?_
      refine v_iconst (v := nI 0) E dX4_take_61 (by decide) ?_
      refine v_istore_n E dX4_take_62 (by decide) ?_
      have loop2 : ∀ k, k ≤ 1024 → ∀ I', tkA I (m :: rs) I' → ((∀ j, j < 1024 → I' 29 j = nI (l_sp rs j).toNat) ∧ (∀ j, j < 1024 → I' 28 (1024 * l + j) = nI (l_sp rs j || (decide (j ^^^ m < k) && l_sp rs (j ^^^ m))).toNat) ∧ ∀ j, (j < 1024 * l ∨ 1024 * l + 1024 ≤ j) → I' 28 j = I 28 j) → z_V K 96 [(0, .ref 17), (1, .int (nI l)), (2, .int (nI m)), (3, .int (nI k))] [] (z_s nl) I' J 0 0 := by
        refine z_for 1024 ?_ (fun k hk ih => ?_)
        · rintro I' hA ⟨b1, b2, b3⟩
          refine v_iload_n E dX4_take_96 rfl ?_
          refine v_sipush (v := nI 1024) E dX4_take_97 (by decide) ?_
          refine v_icmp_geN (tgt := 133) E dX4_take_100 (by decide) (by omega) (by omega) (fun c2 => ?_) (fun c2 => ?_)
          · refine v_ls (ls2 := [(0, .ref 17), (1, .int (nI l)), (2, .int (nI m))]) (by intro q hq; simp only [List.mem_cons, List.not_mem_nil, or_false] at hq; rcases hq with rfl | rfl | rfl <;> rfl) ?_
            refine fin I' hA (fun j hj => ?_) b3
            rw [b2 j hj, decide_eq_true (q_xlt hj hm)]
            rfl
          · exact absurd c2 (by omega)
        · rintro I' hA ⟨b1, b2, b3⟩
          refine v_iload_n E dX4_take_96 rfl ?_
          refine v_sipush (v := nI 1024) E dX4_take_97 (by decide) ?_
          refine v_icmp_geN (tgt := 133) E dX4_take_100 (by decide) (by omega) (by omega) (fun c2 => ?_) (fun c2 => ?_)
          · exact absurd c2 (by omega)
          · refine v_aload_n E dX4_take_103 rfl ?_
            refine v_getR E f_X4_61 dX4_take_104 rfl rfl rfl ?_
            refine v_iload_n E dX4_take_107 rfl ?_
            refine v_baloadE E dX4_take_108 rfl rfl (by omega) (by decide) (b1 k hk) ?_
            have hx := q_xlt hk hm
            have key : ∀ j, j < 1024 → j ≠ k ^^^ m → decide (j ^^^ m < k + 1) = decide (j ^^^ m < k) := by
              intro j hj hne
              apply decide_eq_decide.mpr
              have : j ^^^ m ≠ k := fun e => hne (by rw [← e, l_xx])
              omega
            refine v_if_eqB (tgt := 127) E dX4_take_109 (by decide)  (fun c3 => ?_) (fun c3 => ?_)
            · refine v_inc E dX4_take_127 rfl (by decide) ?_
              refine v_goto (tgt := 96) E dX4_take_130 (by decide) ?_
              refine ih I' hA ⟨b1, fun j hj => ?_, b3⟩
              rw [b2 j hj]
              by_cases e : j = k ^^^ m
              · subst e
                rw [l_xx, c3]
                simp
              · rw [key j hj e]
            · refine v_aload_n E dX4_take_112 rfl ?_
              refine v_getR E f_X4_58 dX4_take_113 rfl rfl rfl ?_
              refine v_sipush (v := nI 1024) E dX4_take_116 (by decide) ?_
              refine v_iload_n E dX4_take_119 rfl ?_
              refine v_imulN E dX4_take_120 ?_
              refine v_iload_n E dX4_take_121 rfl ?_
              refine v_iload_n E dX4_take_122 rfl ?_
              refine v_ixorN E dX4_take_123 ?_
              refine v_iaddN E dX4_take_124 ?_
              refine v_iconst (v := nI 1) E dX4_take_125 (by decide) ?_
              refine v_bastore E dX4_take_126 rfl rfl (by omega) (by decide) (Or.inr rfl) ?_
              refine v_inc E dX4_take_127 rfl (by decide) ?_
              refine v_goto (tgt := 96) E dX4_take_130 (by decide) ?_
              refine ih _ (hA.up (Or.inl rfl)) ⟨fun j hj => ?_, fun j hj => ?_, fun j hj => ?_⟩
              · rw [z_u_row (by decide)]; exact b1 j hj
              · by_cases e : j = k ^^^ m
                · subst e
                  rw [z_u_same, l_xx, c3]
                  simp
                · rw [z_u_col (by omega), b2 j hj, key j hj e]
              · rw [z_u_col (by omega)]; exact b3 j hj
      have loop1 : ∀ k, k ≤ 1024 → ∀ I', tkA I (m :: rs) I' → ((∀ j, j < k → I' 29 j = nI (l_sp rs j).toNat) ∧ I' 28 = I 28) → z_V K 63 [(0, .ref 17), (1, .int (nI l)), (2, .int (nI m)), (3, .int (nI k))] [] (z_s nl) I' J 0 0 := by
        refine z_for 1024 ?_ (fun k hk ih => ?_)
        · rintro I' hA ⟨b1, b2⟩
          refine v_iload_n E dX4_take_63 rfl ?_
          refine v_sipush (v := nI 1024) E dX4_take_64 (by decide) ?_
          refine v_icmp_geN (tgt := 94) E dX4_take_67 (by decide) (by omega) (by omega) (fun c2 => ?_) (fun c2 => ?_)
          · refine v_iconst (v := nI 0) E dX4_take_94 (by decide) ?_
            refine v_istore_n E dX4_take_95 (by decide) ?_
            refine loop2 0 (by omega) I' hA ⟨b1, fun j hj => ?_, fun j _ => by rw [b2]⟩
            rw [b2, hO j hj]
            simp
          · exact absurd c2 (by omega)
        · rintro I' hA ⟨b1, b2⟩
          refine v_iload_n E dX4_take_63 rfl ?_
          refine v_sipush (v := nI 1024) E dX4_take_64 (by decide) ?_
          refine v_icmp_geN (tgt := 94) E dX4_take_67 (by decide) (by omega) (by omega) (fun c2 => ?_) (fun c2 => ?_)
          · exact absurd c2 (by omega)
          · refine v_aload_n E dX4_take_70 rfl ?_
            refine v_getR E f_X4_61 dX4_take_71 rfl rfl rfl ?_
            refine v_iload_n E dX4_take_74 rfl ?_
            refine v_aload_n E dX4_take_75 rfl ?_
            refine v_getR E f_X4_58 dX4_take_76 rfl rfl rfl ?_
            refine v_sipush (v := nI 1024) E dX4_take_79 (by decide) ?_
            refine v_iload_n E dX4_take_82 rfl ?_
            refine v_imulN E dX4_take_83 ?_
            refine v_iload_n E dX4_take_84 rfl ?_
            refine v_iaddN E dX4_take_85 ?_
            refine v_baloadE E dX4_take_86 rfl rfl (by omega) (by decide) ((congrFun b2 _).trans (hO k hk)) ?_
            refine v_bastore E dX4_take_87 rfl rfl (by omega) (by decide) (q_b01 _) ?_
            refine v_inc E dX4_take_88 rfl (by decide) ?_
            refine v_goto (tgt := 63) E dX4_take_91 (by decide) ?_
            refine ih _ (hA.up (Or.inr rfl)) ⟨fun j hj => ?_, ?_⟩
            · by_cases e : j = k
              · subst e
                exact z_u_same
              · rw [z_u_col e]; exact b1 j (by omega)
            · rw [z_u_row (by decide)]; exact b2
      refine loop1 0 (by omega) _ ⟨?_, ?_, fun k hk => ?_, fun q q1 q2 => ?_, fun k k1 k2 => ?_⟩ ⟨fun j hj => absurd hj (Nat.not_lt_zero j), ?_⟩
      · rw [z_u_col (by decide), z_u_row (by decide), z_u_row (by decide)]; exact r1
      · rw [z_u_same]; simp only [l_rk, hs]; rfl
      · rw [z_u_row (by decide), z_u_row (a := 17) (b := 27) (by decide)]; exact aR k hk
      · rw [z_u_row q1, z_u_row (by omega), z_u_row (by omega)]
      · rw [z_u_col k2, z_u_row (by decide), z_u_row (by decide)]
      · rw [z_u_row (by decide), z_u_row (by decide), z_u_row (by decide)]
  refine v_aload_n E dX4_take_0 rfl ?_
  refine v_getR E f_X4_46 dX4_take_1 rfl rfl rfl ?_
  refine v_aload_n E dX4_take_4 rfl ?_
  refine v_getIE E f_X4_52 dX4_take_5 rfl rfl r1 ?_
  refine v_iload_n E dX4_take_8 rfl ?_
  refine v_iastore E dX4_take_9 rfl rfl (by omega) (by decide) ?_
  refine v_aload_n E dX4_take_10 rfl ?_
  refine v_getR E f_X4_49 dX4_take_11 rfl rfl rfl ?_
  refine v_aload_n E dX4_take_14 rfl ?_
  refine v_getIE E f_X4_52 dX4_take_15 rfl rfl (z_ur (by decide) r1) ?_
  refine v_aload_n E dX4_take_18 rfl ?_
  refine v_getR E f_X4_58 dX4_take_19 rfl rfl rfl ?_
  refine v_sipush (v := nI 1024) E dX4_take_22 (by decide) ?_
  refine v_iload_n E dX4_take_25 rfl ?_
  refine v_imulN E dX4_take_26 ?_
  refine v_iload_n E dX4_take_27 rfl ?_
  refine v_iaddN E dX4_take_28 ?_
  refine v_baloadE E dX4_take_29 rfl rfl (by omega) (by decide) (z_ur (by decide) (hO m hm)) ?_
  refine v_if_neB (tgt := 37) E dX4_take_30 (by decide)  (fun c => ?_) (fun c => ?_)
  · rw [c] at mid
    refine v_iconst (v := nI 0) E dX4_take_37 (by decide) ?_
    exact mid
  · rw [c] at mid
    refine v_iconst (v := nI 1) E dX4_take_33 (by decide) ?_
    refine v_goto (tgt := 38) E dX4_take_34 (by decide) ?_
    exact mid
theorem mm_know (d nl : Nat) (s : zS) (hw : s_wf s) (I : zI) (J : zJ) (hm : mI s I J) (l : Nat) (hl : l < s_nl s) : z_C yX4_know cX4_know 3 none (d + 1) [.ref 17, .int (nI l)] (z_s nl) I J 0 0 (fun r h' I' J' => r = none ∧ h' = z_s nl ∧ knR (s_rows s l) I' ∧ knO l (s_rows s l) I' ∧ tkF l I I' ∧ J' = J) := by
  have hw0 := hw
  obtain ⟨w1, w2, w3, w4, w5, w6, w7, w8, w9, w10⟩ := hw
  have h12 := w6 l
  refine z_C.of (by decide) (Nat.le_of_ble_eq_true rfl) fun K E X => ?_
  refine v_aload_n E dX4_know_0 rfl ?_
  refine v_iconst (v := nI 0) E dX4_know_1 (by decide) ?_
  refine v_putI E f_X4_52 dX4_know_2 rfl rfl rfl rfl (by decide) ?_
  refine v_aload_n E dX4_know_5 rfl ?_
  refine v_iconst (v := nI 0) E dX4_know_6 (by decide) ?_
  refine v_putI E f_X4_55 dX4_know_7 rfl rfl rfl rfl (by decide) ?_
  refine v_iconst (v := nI 0) E dX4_know_10 (by decide) ?_
  refine v_istore_n E dX4_know_11 (by decide) ?_
  have loop3 : ∀ c, c ≤ s_nc s → ∀ I', knR (s_rowsAt s l c) I' → knO l (s_rowsAt s l c) I' → tkF l I I' → z_V K 82 [(0, .ref 17), (1, .int (nI l)), (2, .int (nI c))] [] (z_s nl) I' J 0 0 := by
    refine z_for (s_nc s) ?_ (fun c hc ih => ?_)
    · intro I' k1 k2 k3
      obtain ⟨m1, m2, m3, m4, m5, m6, m7, m8, m9, m10, m11⟩ := k3.mS.mI hm
      refine v_iload_n E dX4_know_82 rfl ?_
      refine v_aload_n E dX4_know_83 rfl ?_
      refine v_getIE E f_X4_16 dX4_know_84 rfl rfl m3 ?_
      refine v_icmp_geN (tgt := 121) E dX4_know_87 (by decide) (by omega) (by omega) (fun c2 => ?_) (fun c2 => ?_)
      · exact v_vret E X dX4_know_121 ⟨rfl, rfl, k1, k2, k3, rfl⟩
      · exact absurd c2 (by omega)
    · intro I' k1 k2 k3
      obtain ⟨m1, m2, m3, m4, m5, m6, m7, m8, m9, m10, m11⟩ := k3.mS.mI hm
      have hb : s_hb s c < 1024 := p2_10 w2 (w8 c hc).2.2
      have hcm : s_cm s c < 1024 := p2_10 w1 (w8 c hc).2.1
      have hlen := s_rows_len hw0 l c
      refine v_iload_n E dX4_know_82 rfl ?_
      refine v_aload_n E dX4_know_83 rfl ?_
      refine v_getIE E f_X4_16 dX4_know_84 rfl rfl m3 ?_
      refine v_icmp_geN (tgt := 121) E dX4_know_87 (by decide) (by omega) (by omega) (fun c2 => ?_) (fun c2 => ?_)
      · exact absurd c2 (by omega)
      · refine v_aload_n E dX4_know_90 rfl ?_
        refine v_getR E f_X4_43 dX4_know_91 rfl rfl rfl ?_
        refine v_iload_n E dX4_know_94 rfl ?_
        refine v_ialoadE E dX4_know_95 rfl rfl (by omega) (by decide) (m11 c hc) ?_
        refine v_iload_n E dX4_know_96 rfl ?_
        refine v_ishrN E dX4_know_97 (by omega) (by omega) ?_
        refine v_iconst (v := nI 1) E dX4_know_98 (by decide) ?_
        refine v_iandN E dX4_know_99 ?_
        refine v_tb ?_
        refine v_iconst (v := nI 1) E dX4_know_100 (by decide) ?_
        have e : s_rowsAt s l (c + 1) = if (s_hb s c).testBit l then s_cm s c :: s_rowsAt s l c else s_rowsAt s l c := rfl
        refine v_icmp_neB (tgt := 115) E dX4_know_101 (by decide)  (fun c3 => ?_) (fun c3 => ?_)
        · rw [c3] at e
          refine v_inc E dX4_know_115 rfl (by decide) ?_
          refine v_goto (tgt := 82) E dX4_know_118 (by decide) ?_
          exact ih I' (by rw [e]; exact k1) (by rw [e]; exact k2) k3
        · rw [c3] at e
          refine v_aload_n E dX4_know_104 rfl ?_
          refine v_iload_n E dX4_know_105 rfl ?_
          refine v_aload_n E dX4_know_106 rfl ?_
          refine v_getR E f_X4_40 dX4_know_107 rfl rfl rfl ?_
          refine v_iload_n E dX4_know_110 rfl ?_
          refine v_ialoadE E dX4_know_111 rfl rfl (by omega) (by decide) (m10 c hc) ?_
          refine v_callV E dX4_know_112 k_X4_116 Y_X4_take (mm_take d nl (s_rowsAt s l c) I' J k1 l (by omega) k2 (by omega) (s_cm s c) hcm) rfl rfl rfl (Nat.le_of_ble_eq_true rfl) ?_
          rintro r h' I2 J2 ⟨rfl, rfl, g1, g2, g3, rfl⟩
          refine v_inc E dX4_know_115 rfl (by decide) ?_
          refine v_goto (tgt := 82) E dX4_know_118 (by decide) ?_
          exact ih I2 (by rw [e]; exact g1) (by rw [e]; exact g2) (k3.tr g3)
  have loop2 : ∀ k, k ≤ s_hm s l → ∀ I', knR (r_has (s_hs s l) k) I' → knO l (r_has (s_hs s l) k) I' → tkF l I I' → z_V K 48 [(0, .ref 17), (1, .int (nI l)), (2, .int (nI k))] [] (z_s nl) I' J 0 0 := by
    refine z_for (s_hm s l) ?_ (fun k hk ih => ?_)
    · intro I' k1 k2 k3
      obtain ⟨m1, m2, m3, m4, m5, m6, m7, m8, m9, m10, m11⟩ := k3.mS.mI hm
      refine v_iload_n E dX4_know_48 rfl ?_
      refine v_aload_n E dX4_know_49 rfl ?_
      refine v_getR E f_X4_30 dX4_know_50 rfl rfl rfl ?_
      refine v_iload_n E dX4_know_53 rfl ?_
      refine v_ialoadE E dX4_know_54 rfl rfl (by omega) (by decide) (m7 l (by omega)) ?_
      refine v_icmp_geN (tgt := 80) E dX4_know_55 (by decide) (by omega) (by omega) (fun c2 => ?_) (fun c2 => ?_)
      · refine v_iconst (v := nI 0) E dX4_know_80 (by decide) ?_
        refine v_istore_n E dX4_know_81 (by decide) ?_
        exact loop3 0 (by omega) I' k1 k2 k3
      · exact absurd c2 (by omega)
    · intro I' k1 k2 k3
      obtain ⟨m1, m2, m3, m4, m5, m6, m7, m8, m9, m10, m11⟩ := k3.mS.mI hm
      have hb : s_hs s l k < 1024 := p2_10 w1 (w7 l k hk).2
      have hlen := r_has_len (s_hs s l) k
      refine v_iload_n E dX4_know_48 rfl ?_
      refine v_aload_n E dX4_know_49 rfl ?_
      refine v_getR E f_X4_30 dX4_know_50 rfl rfl rfl ?_
      refine v_iload_n E dX4_know_53 rfl ?_
      refine v_ialoadE E dX4_know_54 rfl rfl (by omega) (by decide) (m7 l (by omega)) ?_
      refine v_icmp_geN (tgt := 80) E dX4_know_55 (by decide) (by omega) (by omega) (fun c2 => ?_) (fun c2 => ?_)
      · exact absurd c2 (by omega)
      · refine v_aload_n E dX4_know_58 rfl ?_
        refine v_iload_n E dX4_know_59 rfl ?_
        refine v_aload_n E dX4_know_60 rfl ?_
        refine v_getR E f_X4_33 dX4_know_61 rfl rfl rfl ?_
        refine v_bipush (v := nI 12) E dX4_know_64 (by decide) ?_
        refine v_iload_n E dX4_know_66 rfl ?_
        refine v_imulN E dX4_know_67 ?_
        refine v_iload_n E dX4_know_68 rfl ?_
        refine v_iaddN E dX4_know_69 ?_
        refine v_ialoadE E dX4_know_70 rfl rfl (by omega) (by decide) (m8 l k (by omega) hk) ?_
        refine v_callV E dX4_know_71 k_X4_116 Y_X4_take (mm_take d nl (r_has (s_hs s l) k) I' J k1 l (by omega) k2 (by omega) (s_hs s l k) hb) rfl rfl rfl (Nat.le_of_ble_eq_true rfl) ?_
        rintro r h' I2 J2 ⟨rfl, rfl, g1, g2, g3, rfl⟩
        refine v_inc E dX4_know_74 rfl (by decide) ?_
        refine v_goto (tgt := 48) E dX4_know_77 (by decide) ?_
        exact ih I2 g1 g2 (k3.tr g3)
  have loop1 : ∀ k, k ≤ 1024 → ∀ I', (I' 17 13 = nI 0 ∧ I' 17 14 = nI 0 ∧ ∀ j, j < k → I' 28 (1024 * l + j) = nI (l_sp [] j).toNat) → tkF l I I' → z_V K 12 [(0, .ref 17), (1, .int (nI l)), (2, .int (nI k))] [] (z_s nl) I' J 0 0 := by
    refine z_for 1024 ?_ (fun k hk ih => ?_)
    · rintro I' ⟨k0, k1, k2⟩ k3
      refine v_iload_n E dX4_know_12 rfl ?_
      refine v_sipush (v := nI 1024) E dX4_know_13 (by decide) ?_
      refine v_icmp_geN (tgt := 46) E dX4_know_16 (by decide) (by omega) (by omega) (fun c2 => ?_) (fun c2 => ?_)
      · refine v_iconst (v := nI 0) E dX4_know_46 (by decide) ?_
        refine v_istore_n E dX4_know_47 (by decide) ?_
        exact loop2 0 (by omega) I' ⟨k0, k1, fun k hk => absurd hk (Nat.not_lt_zero k)⟩ k2 k3
      · exact absurd c2 (by omega)
    · rintro I' ⟨k0, k1, k2⟩ k3
      refine v_iload_n E dX4_know_12 rfl ?_
      refine v_sipush (v := nI 1024) E dX4_know_13 (by decide) ?_
      refine v_icmp_geN (tgt := 46) E dX4_know_16 (by decide) (by omega) (by omega) (fun c2 => ?_) (fun c2 => ?_)
      · exact absurd c2 (by omega)
      · have fin : ∀ b : Bool, b = l_sp [] k → z_V K 39 [(0, .ref 17), (1, .int (nI l)), (2, .int (nI k))] [.int (nI b.toNat), .int (nI (1024 * l + k)), .ref 28] (z_s nl) I' J 0 0 := by
          intro b hb
          refine v_bastore E dX4_know_39 rfl rfl (by omega) (by decide) (q_b01 b) ?_
          refine v_inc E dX4_know_40 rfl (by decide) ?_
          refine v_goto (tgt := 12) E dX4_know_43 (by decide) ?_
          refine ih _ ⟨?_, ?_, fun j hj => ?_⟩ (k3.tr ⟨fun q q1 q2 => z_u_row (by omega), fun k _ _ => by rw [z_u_row (by decide)], fun j hj => z_u_col (by omega)⟩)
          · rw [z_u_row (by decide)]; exact k0
          · rw [z_u_row (by decide)]; exact k1
          · by_cases e : j = k
            · subst e
              rw [z_u_same, hb]
            · rw [z_u_col (by omega)]; exact k2 j (by omega)
        refine v_aload_n E dX4_know_19 rfl ?_
        refine v_getR E f_X4_58 dX4_know_20 rfl rfl rfl ?_
        refine v_sipush (v := nI 1024) E dX4_know_23 (by decide) ?_
        refine v_iload_n E dX4_know_26 rfl ?_
        refine v_imulN E dX4_know_27 ?_
        refine v_iload_n E dX4_know_28 rfl ?_
        refine v_iaddN E dX4_know_29 ?_
        refine v_iload_n E dX4_know_30 rfl ?_
        refine v_if_neN (tgt := 38) E dX4_know_31 (by decide) (by omega) (fun c3 => ?_) (fun c3 => ?_)
        · refine v_iconst (v := nI 0) E dX4_know_38 (by decide) ?_
          exact fin false (by simp only [l_sp]; symm; simpa using (by omega : k ≠ 0))
        · refine v_iconst (v := nI 1) E dX4_know_34 (by decide) ?_
          refine v_goto (tgt := 39) E dX4_know_35 (by decide) ?_
          exact fin true (by subst c3; rfl)
  refine loop1 0 (by omega) _ ⟨?_, z_u_same, fun j hj => absurd hj (Nat.not_lt_zero j)⟩ ⟨fun q q1 q2 => ?_, fun k k1 k2 => ?_, fun j hj => ?_⟩
  · rw [z_u_col (by decide)]; exact z_u_same
  · rw [z_u_row q1, z_u_row q1]
  · rw [z_u_col k2, z_u_col k1]
  · rw [z_u_row (by decide), z_u_row (by decide)]
/-- what all of them know -/
def kA (s : zS) (I : zI) : Prop := ∀ l, l < s_nl s → knO l (s_rows s l) I
theorem mm_knowAll (d nl : Nat) (s : zS) (hw : s_wf s) (I : zI) (J : zJ) (hm : mI s I J) : z_C yX4_knowAll cX4_knowAll 2 none (d + 2) [.ref 17] (z_s nl) I J 0 0 (fun r h' I' J' => r = none ∧ h' = z_s nl ∧ kA s I' ∧ mS I I' ∧ J' = J) := by
  have w2 := hw.2.1
  refine z_C.of (by decide) (Nat.le_of_ble_eq_true rfl) fun K E X => ?_
  refine v_iconst (v := nI 0) E dX4_knowAll_0 (by decide) ?_
  refine v_istore_n E dX4_knowAll_1 (by decide) ?_
  have loop : ∀ k, k ≤ s_nl s → ∀ I', (∀ l, l < k → knO l (s_rows s l) I') → mS I I' → z_V K 2 [(0, .ref 17), (1, .int (nI k))] [] (z_s nl) I' J 0 0 := by
    refine z_for (s_nl s) ?_ (fun k hk ih => ?_)
    · intro I' k1 k2
      have m2 := (k2.mI hm).2.1
      refine v_iload_n E dX4_knowAll_2 rfl ?_
      refine v_aload_n E dX4_knowAll_3 rfl ?_
      refine v_getIE E f_X4_13 dX4_knowAll_4 rfl rfl m2 ?_
      refine v_icmp_geN (tgt := 21) E dX4_knowAll_7 (by decide) (by omega) (by omega) (fun c => ?_) (fun c => ?_)
      · exact v_vret E X dX4_knowAll_21 ⟨rfl, rfl, k1, k2, rfl⟩
      · exact absurd c (by omega)
    · intro I' k1 k2
      have m2 := (k2.mI hm).2.1
      refine v_iload_n E dX4_knowAll_2 rfl ?_
      refine v_aload_n E dX4_knowAll_3 rfl ?_
      refine v_getIE E f_X4_13 dX4_knowAll_4 rfl rfl m2 ?_
      refine v_icmp_geN (tgt := 21) E dX4_knowAll_7 (by decide) (by omega) (by omega) (fun c => ?_) (fun c => ?_)
      · exact absurd c (by omega)
      · refine v_aload_n E dX4_knowAll_10 rfl ?_
        refine v_iload_n E dX4_knowAll_11 rfl ?_
        refine v_callV E dX4_knowAll_12 k_X4_120 Y_X4_know (mm_know d nl s hw I' J (k2.mI hm) k hk) rfl rfl rfl (Nat.le_of_ble_eq_true rfl) ?_
        rintro r h' I2 J2 ⟨rfl, rfl, g1, g2, g3, rfl⟩
        refine v_inc E dX4_knowAll_15 rfl (by decide) ?_
        refine v_goto (tgt := 2) E dX4_knowAll_18 (by decide) ?_
        refine ih I2 (fun l hl => ?_) (k2.tr g3.mS)
        by_cases e : l = k
        · subst e
          exact g2
        · intro m hm1
          rw [g3.2.2 _ (by omega)]
          exact k1 l (by omega) m hm1
  exact loop 0 (by omega) I (fun l hl => absurd hl (Nat.not_lt_zero l)) (mS.rf I)
theorem mm_isOut (d nl : Nat) {rs : List Nat} (I : zI) (J : zJ) (l : Nat) (hl : l < 10) (hO : knO l rs I) (m : Nat) (hm : m < 1024) : z_C yX4_isOut cX4_isOut 3 (some .boolean) d [.ref 17, .int (nI l), .int (nI m)] (z_s nl) I J 0 0 (z_q (some (.int (nI (l_sp rs m).toNat))) (z_s nl) I J) := by
  refine z_C.of (by decide) (Nat.le_of_ble_eq_true rfl) fun K E X => ?_
  refine v_aload_n E dX4_isOut_0 rfl ?_
  refine v_getR E f_X4_58 dX4_isOut_1 rfl rfl rfl ?_
  refine v_sipush (v := nI 1024) E dX4_isOut_4 (by decide) ?_
  refine v_iload_n E dX4_isOut_7 rfl ?_
  refine v_imulN E dX4_isOut_8 ?_
  refine v_iload_n E dX4_isOut_9 rfl ?_
  refine v_iaddN E dX4_isOut_10 ?_
  refine v_baloadE E dX4_isOut_11 rfl rfl (by omega) (by decide) (hO m hm) ?_
  exact v_zret E X dX4_isOut_12 (q_b01 _) z_qq
