/-! PLANS: the class -/
theorem l_of (x : Int64) : ∃ n, x = lN n := ⟨x.toBitVec.toNat, Int64.toBitVec_inj.mp (by
  show x.toBitVec = BitVec.ofNat 64 x.toBitVec.toNat
  rw [BitVec.ofNat_toNat, BitVec.setWidth_eq])⟩
theorem kJ_any (J : zJ) (a : Nat) : ∃ b, kJ J a b := ⟨fun p => Classical.choose (l_of (J (a + 2) p)), fun p _ => Classical.choose_spec (l_of (J (a + 2) p))⟩
/-- is a row a plan? -/
def s_pw (s : zS) (ms : List Nat) (l : Nat) : Bool := l_sv (s_kd s l) (s_hp s l) (s_wt s l) (l_wo (l_f (ms ++ s_rows s l)) 0 10) (2 ^ s_np s - 1)
def s_pl (s : zS) (ms : List Nat) : Bool := decide (∀ l, l < s_nl s → s_pw s ms l = true)
/-- what the search leaves alone -/
def plT (I : zI) (J : zJ) (I' : zI) (J' : zJ) : Prop := (∀ q, q ≠ 13 → q ≠ 14 → I' q = I q) ∧ ∀ q, q ≠ 15 → J' q = J q
def plF (I : zI) (J : zJ) (I' : zI) (J' : zJ) : Prop := (∀ q, q ≠ 13 → q ≠ 14 → q ≠ 16 → I' q = I q) ∧ ∀ q, q ≠ 15 → J' q = J q
theorem plT.F {I I' : zI} {J J' : zJ} (h : plT I J I' J') : plF I J I' J' := ⟨fun q h1 h2 _ => h.1 q h1 h2, h.2⟩
theorem plF.cI {s : zS} {I I' : zI} {J J' : zJ} (h : plF I J I' J') (hc : cI s I J) : cI s I' J' := cI_scr hc (fun q hq => h.1 q (by omega) (by omega) (by omega)) (fun q hq => h.2 q (by omega))
theorem plF.mF {I I' : zI} {J J' : zJ} (h : plF I J I' J') : mFr I J I' J' := fun q q1 q2 => ⟨h.1 q (by omega) (by omega) (by omega), h.2 q (by omega)⟩
theorem plF.tr {I I' I2 : zI} {J J' J2 : zJ} (h : plF I J I' J') (h2 : plF I' J' I2 J2) : plF I J I2 J2 := ⟨fun q a b c => by rw [h2.1 q a b c, h.1 q a b c], fun q a => by rw [h2.2 q a, h.2 q a]⟩
theorem plF.rf (I : zI) (J : zJ) : plF I J I J := ⟨fun _ _ _ _ => rfl, fun _ _ => rfl⟩
theorem plT.tr {I I' I2 : zI} {J J' J2 : zJ} (h : plT I J I' J') (h2 : kFr 13 I' J' I2 J2) : plT I J I2 J2 := ⟨fun q a b => by rw [h2.1 q a b, h.1 q a b], fun q a => by rw [h2.2 q a, h.2 q a]⟩
theorem m_isPlan (d : Nat) (s : zS) (hw : s_wf s) (I : zI) (J : zJ) (hc : cI s I J) (f : Nat → Nat) (n : Nat) (hn : n ≤ 5) (hf : ∀ i, i < n → I 16 i = nI (f i) ∧ f i < 1024) : z_C yX3_isPlan cX3_isPlan 5 (some .boolean) (d + 3) [.ref 1, .int (nI n)] (z_s (s_nl s)) I J 0 0 (fun r h' I' J' => r = some (.int (nI (s_pl s (r_has f n)).toNat)) ∧ h' = z_s (s_nl s) ∧ plT I J I' J') := by
  have w1 := hw.1
  have w2 := hw.2.1
  refine z_C.of (by decide) (Nat.le_of_ble_eq_true rfl) fun K E X => ?_
  refine v_iconst (v := nI 0) E dX3_isPlan_0 (by decide) ?_
  refine v_istore_n E dX3_isPlan_1 (by decide) ?_
  have loop : ∀ k, k ≤ s_nl s → (∀ l, l < k → s_pw s (r_has f n) l = true) → ∀ I1 J1, plT I J I1 J1 → ∀ ls : zL, (∀ q ∈ [(0, Value.ref 1), (1, .int (nI n)), (2, .int (nI k))], z_at ls q.1 = some q.2) → z_V K 2 ls [] (z_s (s_nl s)) I1 J1 0 0 := by
    refine z_for (s_nl s) ?_ (fun k hk ih => ?_)
    · intro hall I1 J1 hT ls hls
      have hc1 := hT.F.cI hc
      refine v_ls hls ?_
      refine v_iload_n E dX3_isPlan_2 rfl ?_
      refine v_aload_n E dX3_isPlan_3 rfl ?_
      refine v_getR E f_X3_16 dX3_isPlan_4 rfl rfl rfl ?_
      refine v_callV1 E dX3_isPlan_7 k_X3_58 Y_Jx4a65c_size_8abf5 (m_size (d + 2) (s_nl s) I1 J1 hc1.2.2.1) rfl rfl rfl (Nat.le_of_ble_eq_true rfl) ?_
      refine v_icmp_geN (tgt := 100) E dX3_isPlan_10 (by decide) (by omega) (by omega) (fun c => ?_) (fun c => ?_)
      · refine v_iconst (v := nI 1) E dX3_isPlan_100 (by decide) ?_
        have e : s_pl s (r_has f n) = true := decide_eq_true hall
        exact v_zret E X dX3_isPlan_101 (by first | exact Or.inl rfl | exact Or.inr rfl) ⟨by rw [e]; rfl, rfl, hT⟩
      · exact absurd c (by omega)
    · intro hall I1 J1 hT ls hls
      have hc1 := hT.F.cI hc
      have hL := hc1.2.2.2.2.2.2.2 k hk
      obtain ⟨b0, b1, b2, b3, b4, b5⟩ := s_lsB hw k
      have hkne : z_pl k + 2 ≠ 13 ∧ z_pl k + 2 ≠ 13 + 1 := by
        have := z_pl_37 k
        omega
      refine v_ls hls ?_
      refine v_iload_n E dX3_isPlan_2 rfl ?_
      refine v_aload_n E dX3_isPlan_3 rfl ?_
      refine v_getR E f_X3_16 dX3_isPlan_4 rfl rfl rfl ?_
      refine v_callV1 E dX3_isPlan_7 k_X3_58 Y_Jx4a65c_size_8abf5 (m_size (d + 2) (s_nl s) I1 J1 hc1.2.2.1) rfl rfl rfl (Nat.le_of_ble_eq_true rfl) ?_
      refine v_icmp_geN (tgt := 100) E dX3_isPlan_10 (by decide) (by omega) (by omega) (fun c => ?_) (fun c => ?_)
      · exact absurd c (by omega)
      · refine v_aload_n E dX3_isPlan_13 rfl ?_
        refine v_getR E f_X3_16 dX3_isPlan_14 rfl rfl rfl ?_
        refine v_iload_n E dX3_isPlan_17 rfl ?_
        refine v_callV1 E dX3_isPlan_18 k_X3_74 Y_Jx4a65c_get_915e3 (m_get d (s_nl s) I1 J1 hc1.2.2.1 k hk w2) rfl rfl rfl (Nat.le_of_ble_eq_true rfl) ?_
        refine v_checkcast E dX3_isPlan_21 c_X3_62 (by decide) (v_cc hk) ?_
        refine v_astore_n E dX3_isPlan_24 (by decide) ?_
        refine v_aload_n E dX3_isPlan_25 rfl ?_
        refine v_getR E f_X3_40 dX3_isPlan_26 rfl rfl rfl ?_
        refine v_aload_n E dX3_isPlan_29 rfl ?_
        refine v_getR E f_X3_126 dX3_isPlan_30 (v_cc hk) rfl (z_ls hk).2.2.2.2 ?_
        refine v_callV E dX3_isPlan_33 k_X3_227 Y_X0_become (m_become (d + 1) (z_s (s_nl s)) I1 J1 13 (z_pl k + 2) (z_s13 _) (z_ls hk).2.2.1 hkne.1 hkne.2 (l_f (s_rows s k)) (l_rk (s_rows s k)) hL.2.2.2.2.2.2.2.2.1) rfl rfl rfl (Nat.le_of_ble_eq_true rfl) ?_
        rintro r h' I2 J2 ⟨rfl, rfl, k1, k2⟩
        refine v_iconst (v := nI 0) E dX3_isPlan_36 (by decide) ?_
        refine v_istore E dX3_isPlan_37 (by decide) ?_
        have inner : ∀ i, i ≤ n → ∀ I3 J3, plT I J I3 J3 → (∃ rk, kI I3 13 (l_f (r_has f i ++ s_rows s k)) rk) → ∀ ls : zL, (∀ q ∈ [(0, Value.ref 1), (1, .int (nI n)), (2, .int (nI k)), (3, .ref (z_pl k)), (4, .int (nI i))], z_at ls q.1 = some q.2) → z_V K 39 ls [] (z_s (s_nl s)) I3 J3 0 0 := by
          have hbd : ∀ i, i ≤ n → ∀ r ∈ r_has f i ++ s_rows s k, r < 1024 := by
            intro i hi r hr
            rcases List.mem_append.mp hr with h | h
            · obtain ⟨j, h1, h2⟩ := r_has_mem h
              rw [h2]
              exact (hf j (by omega)).2
            · exact b1 r h
          refine z_for n ?_ (fun i hi ih2 => ?_)
          · intro I3 J3 h3 ⟨rk, h4⟩ ls hls
            have hc3 := h3.F.cI hc
            have hL3 := hc3.2.2.2.2.2.2.2 k hk
            have hend : z_V K 77 [(0, Value.ref 1), (1, .int (nI n)), (2, .int (nI k)), (3, .ref (z_pl k)), (4, .int (nI n))] [] (z_s (s_nl s)) I3 J3 0 0 := by
              refine v_aload_n E dX3_isPlan_77 rfl ?_
              refine v_aload_n E dX3_isPlan_78 rfl ?_
              refine v_getR E f_X3_40 dX3_isPlan_79 rfl rfl rfl ?_
              refine v_aload_n E dX3_isPlan_82 rfl ?_
              refine v_callV1 E dX3_isPlan_83 k_X3_147 Y_X3_allPieces (m_allPieces (d + 2) (s_nl s) (s_np s) I3 J3 hc3.1 w1) rfl rfl rfl (Nat.le_of_ble_eq_true rfl) ?_
              refine v_callV1 E dX3_isPlan_86 k_X3_204 Y_X1_isServedBy (m_isServedBy d (z_s (s_nl s)) I3 J3 (z_pl k) 13 (z_ls hk) (z_s13 _) hL3.1 hL3.2.2.2.1 hL3.2.2.2.2.1 b0 b4 b5 (l_f (r_has f n ++ s_rows s k)) h4.1 (l_f_lt (hbd n (Nat.le_refl _))) (2 ^ s_np s - 1) (p2_lt w1)) (v_cc hk) rfl rfl (Nat.le_of_ble_eq_true rfl) ?_
              have hdef : s_pw s (r_has f n) k = l_sv (s_kd s k) (s_hp s k) (s_wt s k) (l_wo (l_f (r_has f n ++ s_rows s k)) 0 10) (2 ^ s_np s - 1) := rfl
              refine v_if_neB (tgt := 94) E dX3_isPlan_89 (by decide)  (fun c5 => ?_) (fun c5 => ?_)
              · refine v_inc E dX3_isPlan_94 rfl (by decide) ?_
                refine v_goto (tgt := 2) E dX3_isPlan_97 (by decide) ?_
                refine ih (fun l hl => ?_) I3 J3 h3 _ ?_
                · rcases Nat.lt_or_eq_of_le (Nat.le_of_lt_succ hl) with h | h
                  · exact hall l h
                  · rw [h, hdef]
                    exact c5
                · intro q hq
                  simp only [List.mem_cons, List.not_mem_nil, or_false] at hq
                  rcases hq with rfl | rfl | rfl <;> rfl
              · refine v_iconst (v := nI 0) E dX3_isPlan_92 (by decide) ?_
                have e : s_pl s (r_has f n) = false := decide_eq_false fun h => by
                  have := h k hk
                  rw [hdef, c5] at this
                  cases this
                exact v_zret E X dX3_isPlan_93 (by first | exact Or.inl rfl | exact Or.inr rfl) ⟨by rw [e]; rfl, rfl, h3⟩
            refine v_ls hls ?_
            refine v_iload E dX3_isPlan_39 rfl ?_
            refine v_iload_n E dX3_isPlan_41 rfl ?_
            refine v_icmp_geN (tgt := 77) E dX3_isPlan_42 (by decide) (by omega) (by omega) (fun c3 => ?_) (fun c3 => ?_)
            · exact hend
            · exact absurd c3 (by omega)
          · intro I3 J3 h3 ⟨rk, h4⟩ ls hls
            obtain ⟨bb, hbb⟩ := kJ_any J3 13
            have hfi := hf i hi
            have hri : I3 16 i = nI (f i) := by rw [h3.1 16 (by decide) (by decide)]; exact hfi.1
            refine v_ls hls ?_
            refine v_iload E dX3_isPlan_39 rfl ?_
            refine v_iload_n E dX3_isPlan_41 rfl ?_
            refine v_icmp_geN (tgt := 77) E dX3_isPlan_42 (by decide) (by omega) (by omega) (fun c3 => ?_) (fun c3 => ?_)
            · exact absurd c3 (by omega)
            · refine v_iload E dX3_isPlan_45 rfl ?_
              refine v_aload_n E dX3_isPlan_47 rfl ?_
              refine v_getR E f_X3_44 dX3_isPlan_48 rfl rfl rfl ?_
              refine v_arraylength E dX3_isPlan_51 rfl (by decide) (by decide) rfl ?_
              refine v_icmp_geN (tgt := 77) E dX3_isPlan_52 (by decide) (by omega) (by omega) (fun c4 => ?_) (fun c4 => ?_)
              · exact absurd c4 (by omega)
              · refine v_aload_n E dX3_isPlan_55 rfl ?_
                refine v_getR E f_X3_40 dX3_isPlan_56 rfl rfl rfl ?_
                refine v_aload_n E dX3_isPlan_59 rfl ?_
                refine v_getR E f_X3_44 dX3_isPlan_60 rfl rfl rfl ?_
                refine v_iload E dX3_isPlan_63 rfl ?_
                refine v_ialoadE E dX3_isPlan_65 rfl rfl (by omega) (by decide) hri ?_
                refine v_lconst (v := lN 0) E dX3_isPlan_66 (by decide) ?_
                refine v_callV E dX3_isPlan_67 k_X3_231 Y_X0_learn (m_learn d (z_s (s_nl s)) I3 J3 13 (z_s13 _) (l_f (r_has f i ++ s_rows s k)) bb rk h4 (l_f_lt (hbd i (by omega))) hbb (f i) hfi.2 0) rfl rfl rfl (Nat.le_of_ble_eq_true rfl) ?_
                rintro r h' I4 J4 ⟨rfl, rfl, g1, g2, g3⟩
                refine v_pop E dX3_isPlan_70 rfl ?_
                refine v_inc E dX3_isPlan_71 rfl (by decide) ?_
                refine v_goto (tgt := 39) E dX3_isPlan_74 (by decide) ?_
                refine ih2 I4 J4 (h3.tr g3) ⟨_, g1⟩ _ ?_
                intro q hq
                simp only [List.mem_cons, List.not_mem_nil, or_false] at hq
                rcases hq with rfl | rfl | rfl | rfl | rfl <;> rfl
        refine inner 0 (by omega) I2 J2 (hT.tr k2) ⟨_, k1⟩ _ ?_
        intro q hq
        simp only [List.mem_cons, List.not_mem_nil, or_false] at hq
        rcases hq with rfl | rfl | rfl | rfl | rfl <;> rfl
  refine loop 0 (by omega) (fun l hl => absurd hl (by omega)) I J ⟨fun _ _ _ => rfl, fun _ _ => rfl⟩ _ ?_
  intro q hq
  simp only [List.mem_cons, List.not_mem_nil, or_false] at hq
  rcases hq with rfl | rfl | rfl <;> rfl
theorem pl_hb_lt {f : Nat → Nat} : ∀ n, (∀ i, i < n → 0 < f i ∧ f i < 1024) → pl_hb (r_has f n) < 1024
  | 0, _ => (by decide : 0 < 1024)
  | n + 1, h => q_or_lt (k := 10) (pl_hb_lt n (fun i hi => h i (by omega))) (q_top_lt (by have := h n (by omega); omega) (h n (by omega)).2)
theorem m_highestBits (d nl : Nat) (I : zI) (J : zJ) (f : Nat → Nat) (n : Nat) (hn : n ≤ 5) (hf : ∀ i, i < n → I 16 i = nI (f i) ∧ 0 < f i ∧ f i < 1024) : z_C yX3_highestBits cX3_highestBits 4 (some .int) (d + 2) [.ref 1, .int (nI n)] (z_s nl) I J 0 0 (z_q (some (.int (nI (pl_hb (r_has f n))))) (z_s nl) I J) := by
  refine z_C.of (by decide) (Nat.le_of_ble_eq_true rfl) fun K E X => ?_
  refine v_iconst (v := nI 0) E dX3_highestBits_0 (by decide) ?_
  refine v_istore_n E dX3_highestBits_1 (by decide) ?_
  refine v_iconst (v := nI 0) E dX3_highestBits_2 (by decide) ?_
  refine v_istore_n E dX3_highestBits_3 (by decide) ?_
  have loop : ∀ k, k ≤ n → z_V K 4 [(0, .ref 1), (1, .int (nI n)), (2, .int (nI (pl_hb (r_has f k)))), (3, .int (nI k))] [] (z_s nl) I J 0 0 := by
    refine z_for n ?_ (fun k hk ih => ?_)
    · refine v_iload_n E dX3_highestBits_4 rfl ?_
      refine v_iload_n E dX3_highestBits_5 rfl ?_
      refine v_icmp_geN (tgt := 36) E dX3_highestBits_6 (by decide) (by omega) (by omega) (fun c => ?_) (fun c => ?_)
      · refine v_iload_n E dX3_highestBits_36 rfl ?_
        exact v_iret E X dX3_highestBits_37 z_qq
      · exact absurd c (by omega)
    · have hfk := hf k hk
      refine v_iload_n E dX3_highestBits_4 rfl ?_
      refine v_iload_n E dX3_highestBits_5 rfl ?_
      refine v_icmp_geN (tgt := 36) E dX3_highestBits_6 (by decide) (by omega) (by omega) (fun c => ?_) (fun c => ?_)
      · exact absurd c (by omega)
      · refine v_iload_n E dX3_highestBits_9 rfl ?_
        refine v_aload_n E dX3_highestBits_10 rfl ?_
        refine v_getR E f_X3_44 dX3_highestBits_11 rfl rfl rfl ?_
        refine v_arraylength E dX3_highestBits_14 rfl (by decide) (by decide) rfl ?_
        refine v_icmp_geN (tgt := 36) E dX3_highestBits_15 (by decide) (by omega) (by omega) (fun c4 => ?_) (fun c4 => ?_)
        · exact absurd c4 (by omega)
        · refine v_iload_n E dX3_highestBits_18 rfl ?_
          refine v_aload_n E dX3_highestBits_19 rfl ?_
          refine v_getR E f_X3_44 dX3_highestBits_20 rfl rfl rfl ?_
          refine v_iload_n E dX3_highestBits_23 rfl ?_
          refine v_ialoadE E dX3_highestBits_24 rfl rfl (by omega) (by decide) hfk.1 ?_
          refine v_callS1 E dX3_highestBits_25 k_X3_222 Y_J6_highestOneBit_0f7a4 (m_highestOneBit d (z_s nl) I J (f k) hfk.2.2 hfk.2.1) rfl rfl (Nat.le_of_ble_eq_true rfl) ?_
          refine v_iorN E dX3_highestBits_28 ?_
          refine v_istore_n E dX3_highestBits_29 (by decide) ?_
          refine v_inc E dX3_highestBits_30 rfl (by decide) ?_
          refine v_goto (tgt := 4) E dX3_highestBits_33 (by decide) ?_
          exact ih
  exact loop 0 (by omega)
