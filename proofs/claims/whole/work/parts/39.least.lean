/-! PLANS: the search -/
abbrev s_top (s : zS) : Nat := 2 ^ s_np s - 1
def clQ (s : zS) (k n a : Nat) (f : Nat → Nat) (I : zI) (J : zJ) : zQ := fun r h' I' J' => r = some (.int (nI (pl_find (s_pl s) pl_ok (s_top s) k (r_has f a)).isSome.toNat)) ∧ h' = z_s (s_nl s) ∧ plF I J I' J' ∧ (∀ j, j < a → I' 16 j = I 16 j) ∧ ∀ e, pl_find (s_pl s) pl_ok (s_top s) k (r_has f a) = some e → ∀ i, i < k → I' 16 (a + i) = nI (e.getD i 0)
theorem pl_last_r (f : Nat → Nat) (a : Nat) : pl_last (r_has f (a + 1)) = f a := rfl
theorem m_completes (s : zS) (hw : s_wf s) (h5 : s_np s ≤ 5) : ∀ (k D : Nat), k + 4 ≤ D → ∀ (n a : Nat), a + k = n → n ≤ 5 → ∀ (I : zI) (J : zJ), cI s I J → ∀ f : Nat → Nat, (∀ i, i < a → I 16 i = nI (f i) ∧ 0 < f i ∧ f i ≤ s_top s) → z_C yX3_completes cX3_completes 6 (some .boolean) D [.ref 1, .int (nI a), .int (nI n)] (z_s (s_nl s)) I J 0 0 (clQ s k n a f I J) := by
  have hp32 : 2 ^ s_np s ≤ 32 := Nat.pow_le_pow_right (n := 2) (by decide) h5
  have hpp := Nat.two_pow_pos (s_np s)
  have htop : s_top s = 2 ^ s_np s - 1 := rfl
  intro k
  induction k with
  | zero =>
    intro D hD n a han hn I J hc f hf
    obtain ⟨d, rfl⟩ : ∃ d, D = (d + 3) + 1 := ⟨D - 4, by omega⟩
    refine z_C.of (by decide) (Nat.le_of_ble_eq_true rfl) fun K E X => ?_
    refine v_iload_n E dX3_completes_0 rfl ?_
    refine v_iload_n E dX3_completes_1 rfl ?_
    refine v_icmp_geN (tgt := 14) E dX3_completes_2 (by decide) (by omega) (by omega) (fun c => ?_) (fun c => ?_)
    · refine v_aload_n E dX3_completes_14 rfl ?_
      refine v_iload_n E dX3_completes_15 rfl ?_
      refine v_callV E dX3_completes_16 k_X3_186 Y_X3_isPlan (m_isPlan d s hw I J hc f n hn (fun i hi => ⟨(hf i (by omega)).1, by have := (hf i (by omega)).2.2; omega⟩)) rfl rfl rfl (Nat.le_of_ble_eq_true rfl) ?_
      rintro r h' I' J' ⟨rfl, rfl, g⟩
      have e : n = a := by omega
      subst e
      have e2 : pl_find (s_pl s) pl_ok (s_top s) 0 (r_has f n) = if s_pl s (r_has f n) then some [] else none := rfl
      exact v_zret E X dX3_completes_19 (q_b01 _) ⟨by rw [e2]; cases s_pl s (r_has f n) <;> rfl, rfl, g.F, fun j hj => by rw [g.1 16 (by decide) (by decide)], fun e he i hi => absurd hi (by omega)⟩
    · exact absurd c (by omega)
  | succ k ihk =>
    intro D hD n a han hn I J hc f hf
    obtain ⟨d, rfl⟩ : ∃ d, D = (d + 2) + 1 := ⟨D - 3, by omega⟩
    have w1 := hw.1
    generalize hpre : r_has f a = pre at *
    have hfl : ∀ i, i < a → 0 < f i ∧ f i < 1024 := fun i hi => ⟨(hf i hi).2.1, by have := (hf i hi).2.2; omega⟩
    have hlast : pl_last pre ≤ s_top s := by
      rw [← hpre]
      cases a with
      | zero => exact Nat.zero_le _
      | succ a => exact (hf a (by omega)).2.2
    have hhb := pl_hb_lt a hfl
    rw [hpre] at hhb
    have h256 := m_highestBits d (s_nl s) I J f a (by omega) (fun i hi => ⟨(hf i hi).1, hfl i hi⟩)
    rw [hpre] at h256
    have hrec : pl_find (s_pl s) pl_ok (s_top s) (k + 1) pre = pl_go (fun m => if pl_ok pre m then pl_find (s_pl s) pl_ok (s_top s) k (m :: pre) else none) (s_top s - pl_last pre) (pl_last pre + 1) := rfl
    unfold clQ
    rw [hpre]
    generalize hF : (fun m => if pl_ok pre m then pl_find (s_pl s) pl_ok (s_top s) k (m :: pre) else none) = F at hrec
    have hFm : ∀ m, F m = if pl_ok pre m then pl_find (s_pl s) pl_ok (s_top s) k (m :: pre) else none := fun m => by rw [← hF]
    generalize hR : pl_find (s_pl s) pl_ok (s_top s) (k + 1) pre = R at *
    refine z_C.of (by decide) (Nat.le_of_ble_eq_true rfl) fun K E X => ?_
    have main : z_V K 36 [(0, .ref 1), (1, .int (nI a)), (2, .int (nI n))] [.int (nI (pl_last pre))] (z_s (s_nl s)) I J 0 0 := by
      refine v_istore_n E dX3_completes_36 (by decide) ?_
      refine v_aload_n E dX3_completes_37 rfl ?_
      refine v_iload_n E dX3_completes_38 rfl ?_
      refine v_callV1 E dX3_completes_39 k_X3_219 Y_X3_highestBits h256 rfl rfl rfl (Nat.le_of_ble_eq_true rfl) ?_
      refine v_istore E dX3_completes_42 (by decide) ?_
      refine v_iload_n E dX3_completes_44 rfl ?_
      refine v_iconst (v := nI 1) E dX3_completes_45 (by decide) ?_
      refine v_iaddN E dX3_completes_46 ?_
      refine v_istore E dX3_completes_47 (by decide) ?_
      have loop : ∀ m, m ≤ s_top s + 1 → pl_last pre < m → R = pl_go F (s_top s + 1 - m) m → ∀ I1 J1, plF I J I1 J1 → (∀ j, j < a → I1 16 j = I 16 j) → ∀ ls : zL, (∀ q ∈ [(0, Value.ref 1), (1, .int (nI a)), (2, .int (nI n)), (4, .int (nI (pl_hb pre))), (5, .int (nI m))], z_at ls q.1 = some q.2) → z_V K 49 ls [] (z_s (s_nl s)) I1 J1 0 0 := by
        refine z_for (s_top s + 1) ?_ (fun m hm ih => ?_)
        · intro _ hg I1 J1 g1 g2 ls hls
          have hc1 := g1.cI hc
          refine v_ls hls ?_
          refine v_iload E dX3_completes_49 rfl ?_
          refine v_aload_n E dX3_completes_51 rfl ?_
          refine v_callV1 E dX3_completes_52 k_X3_147 Y_X3_allPieces (m_allPieces (d + 2) (s_nl s) (s_np s) I1 J1 hc1.1 w1) rfl rfl rfl (Nat.le_of_ble_eq_true rfl) ?_
          refine v_icmp_gtN (tgt := 93) E dX3_completes_55 (by decide) (by omega) (by omega) (fun c => ?_) (fun c => ?_)
          · refine v_iconst (v := nI 0) E dX3_completes_93 (by decide) ?_
            rw [Nat.sub_self] at hg
            have hg2 : R = none := hg
            exact v_zret E X dX3_completes_94 (by first | exact Or.inl rfl | exact Or.inr rfl) ⟨by rw [hg2]; rfl, rfl, g1, g2, fun e he => by rw [hg2] at he; cases he⟩
          · exact absurd c (by omega)
        · intro hlm hg I1 J1 g1 g2 ls hls
          have hc1 := g1.cI hc
          have estep : pl_go F (s_top s + 1 - m) m = match F m with | some e => some (m :: e) | none => pl_go F (s_top s + 1 - (m + 1)) (m + 1) := by
            rw [show s_top s + 1 - m = (s_top s + 1 - (m + 1)) + 1 by omega]
            rfl
          have next : F m = none → ∀ I2 J2, plF I J I2 J2 → (∀ j, j < a → I2 16 j = I 16 j) → z_V K 87 [(0, Value.ref 1), (1, .int (nI a)), (2, .int (nI n)), (4, .int (nI (pl_hb pre))), (5, .int (nI m))] [] (z_s (s_nl s)) I2 J2 0 0 := by
            intro hn1 I2 J2 g3 g4
            rw [hn1] at estep
            refine v_inc E dX3_completes_87 rfl (by decide) ?_
            refine v_goto (tgt := 49) E dX3_completes_90 (by decide) ?_
            refine ih (by omega) (by rw [hg, estep]) I2 J2 g3 g4 _ ?_
            intro q hq
            simp only [List.mem_cons, List.not_mem_nil, or_false] at hq
            rcases hq with rfl | rfl | rfl | rfl | rfl <;> rfl
          have hal : m &&& pl_hb pre < 1024 := Nat.lt_of_le_of_lt Nat.and_le_left (show m < 1024 by omega)
          refine v_ls hls ?_
          refine v_iload E dX3_completes_49 rfl ?_
          refine v_aload_n E dX3_completes_51 rfl ?_
          refine v_callV1 E dX3_completes_52 k_X3_147 Y_X3_allPieces (m_allPieces (d + 2) (s_nl s) (s_np s) I1 J1 hc1.1 w1) rfl rfl rfl (Nat.le_of_ble_eq_true rfl) ?_
          refine v_icmp_gtN (tgt := 93) E dX3_completes_55 (by decide) (by omega) (by omega) (fun c => ?_) (fun c => ?_)
          · exact absurd c (by omega)
          · refine v_iload E dX3_completes_58 rfl ?_
            refine v_iload E dX3_completes_60 rfl ?_
            refine v_iandN E dX3_completes_62 ?_
            refine v_if_neN (tgt := 87) E dX3_completes_63 (by decide) (by omega) (fun c1 => ?_) (fun c1 => ?_)
            · have hno : pl_ok pre m = false := decide_eq_false (by omega)
              exact next (by rw [hFm, hno]; rfl) I1 J1 g1 g2
            · have hyes : pl_ok pre m = true := decide_eq_true c1
              have hFm2 : F m = pl_find (s_pl s) pl_ok (s_top s) k (m :: pre) := by rw [hFm, hyes]; exact if_pos rfl
              refine v_aload_n E dX3_completes_66 rfl ?_
              refine v_getR E f_X3_44 dX3_completes_67 rfl rfl rfl ?_
              refine v_iload_n E dX3_completes_70 rfl ?_
              refine v_iload E dX3_completes_71 rfl ?_
              refine v_iastore E dX3_completes_73 rfl rfl (by omega) (by decide) ?_
              refine v_aload_n E dX3_completes_74 rfl ?_
              refine v_iload_n E dX3_completes_75 rfl ?_
              refine v_iconst (v := nI 1) E dX3_completes_76 (by decide) ?_
              refine v_iaddN E dX3_completes_77 ?_
              refine v_iload_n E dX3_completes_78 rfl ?_
              have hcons : r_has (va_up f a m) (a + 1) = m :: pre := by
                show va_up f a m a :: r_has (va_up f a m) a = _
                rw [u_up_same, ← hpre, r_has_congr (hs := f) (fun i hi => u_up_ne (by omega))]
              have hu : plF I J (z_u I1 16 a (nI m)) J1 := ⟨fun q a1 a2 a3 => by rw [z_u_row a3]; exact g1.1 q a1 a2 a3, g1.2⟩
              have hcall := ihk (d + 2) (by omega) n (a + 1) (by omega) hn (z_u I1 16 a (nI m)) J1 (hu.cI hc) (va_up f a m) (fun i hi => by
                by_cases e : i = a
                · subst e
                  rw [z_u_same, u_up_same]
                  exact ⟨rfl, by omega, by omega⟩
                · rw [z_u_col e, u_up_ne e, g2 i (by omega)]
                  exact hf i (by omega))
              unfold clQ at hcall
              rw [hcons, ← hFm2] at hcall
              refine v_callS E dX3_completes_79 k_X3_215 Y_X3_completes hcall rfl rfl (Nat.le_of_ble_eq_true rfl) ?_
              rintro r h' I3 J3 ⟨rfl, rfl, p1, p2, p3⟩
              have q2 : ∀ j, j < a → I3 16 j = I 16 j := fun j hj => by rw [p2 j (by omega), z_u_col (by omega), g2 j hj]
              cases hFe : F m with
              | none =>
                refine v_if_eqB (tgt := 87) E dX3_completes_82 (by decide)  (fun c6 => ?_) (fun c6 => ?_)
                · exact next hFe I3 J3 (hu.tr p1) q2
                · cases c6
              | some e =>
                refine v_if_eqB (tgt := 87) E dX3_completes_82 (by decide)  (fun c6 => ?_) (fun c6 => ?_)
                · cases c6
                · rw [hFe] at estep
                  have hRe : R = some (m :: e) := by rw [hg, estep]
                  refine v_iconst (v := nI 1) E dX3_completes_85 (by decide) ?_
                  refine v_zret E X dX3_completes_86 (by first | exact Or.inl rfl | exact Or.inr rfl) ⟨by rw [hRe]; rfl, rfl, hu.tr p1, q2, fun e1 he1 i hi => ?_⟩
                  rw [hRe] at he1
                  cases he1
                  cases i with
                  | zero =>
                    rw [Nat.add_zero, p2 a (by omega), z_u_same]
                    rfl
                  | succ i =>
                    rw [show a + (i + 1) = a + 1 + i by omega, p3 e hFe i (by omega)]
                    rfl
      refine loop (pl_last pre + 1) (by omega) (by omega) ?_ I J (plF.rf I J) (fun _ _ => rfl) _ ?_
      · rw [hrec, show s_top s + 1 - (pl_last pre + 1) = s_top s - pl_last pre by omega]
      · intro q hq
        simp only [List.mem_cons, List.not_mem_nil, or_false] at hq
        rcases hq with rfl | rfl | rfl | rfl | rfl <;> rfl
    refine v_iload_n E dX3_completes_0 rfl ?_
    refine v_iload_n E dX3_completes_1 rfl ?_
    refine v_icmp_geN (tgt := 14) E dX3_completes_2 (by decide) (by omega) (by omega) (fun c => ?_) (fun c => ?_)
    · exact absurd c (by omega)
    · refine v_iload_n E dX3_completes_5 rfl ?_
      refine v_aload_n E dX3_completes_6 rfl ?_
      refine v_getR E f_X3_44 dX3_completes_7 rfl rfl rfl ?_
      refine v_arraylength E dX3_completes_10 rfl (by decide) (by decide) rfl ?_
      refine v_icmp_ltN (tgt := 20) E dX3_completes_11 (by decide) (by omega) (by omega) (fun c1 => ?_) (fun c1 => ?_)
      · refine v_iload_n E dX3_completes_20 rfl ?_
        refine v_if_neN (tgt := 28) E dX3_completes_21 (by decide) (by omega) (fun c2 => ?_) (fun c2 => ?_)
        · obtain ⟨b, rfl⟩ : ∃ b, a = b + 1 := ⟨a - 1, by omega⟩
          refine v_aload_n E dX3_completes_28 rfl ?_
          refine v_getR E f_X3_44 dX3_completes_29 rfl rfl rfl ?_
          refine v_iload_n E dX3_completes_32 rfl ?_
          refine v_iconst (v := nI 1) E dX3_completes_33 (by decide) ?_
          refine v_isubN E dX3_completes_34 (by omega) ?_
          refine v_ialoadE E dX3_completes_35 rfl rfl (by omega) (by decide) (hf b (by omega)).1 ?_
          have e : f b = pl_last pre := by rw [← hpre]; rfl
          rw [e]
          exact main
        · refine v_iconst (v := nI 0) E dX3_completes_24 (by decide) ?_
          refine v_goto (tgt := 36) E dX3_completes_25 (by decide) ?_
          have e : pl_last pre = 0 := by rw [← hpre, c2]; rfl
          rw [e] at main
          exact main
      · exact absurd c1 (by omega)
theorem l_wo_sp {rs : List Nat} (hr : ∀ r ∈ rs, r < 1024) (i : Nat) : (l_wo (l_f rs) 0 10).testBit i = (decide (i < 10) && l_sp rs (2 ^ i)) := by
  rw [l_wo_bit]
  by_cases hi : i < 10
  · rw [decide_eq_true hi, Bool.true_and, Bool.true_and]
    have h := l_f_out hr hi
    cases hs : l_sp rs (2 ^ i) with
    | true => exact decide_eq_true (Or.inl (h.mpr hs))
    | false =>
      refine decide_eq_false fun hc => ?_
      have : l_f rs i = 0 := by
        rcases hc with h | h <;> exact h
      rw [h.mp this] at hs
      cases hs
  · rw [decide_eq_false hi, Bool.false_and, Bool.false_and]
theorem s_pl_hP {s : zS} (hw : s_wf s) : pl_hP (s_pl s) (s_top s) := by
  intro x y hx hy h1 h2
  have hp : 2 ^ s_np s ≤ 1024 := p2n hw.1
  have hpp := Nat.two_pow_pos (s_np s)
  have htop : s_top s = 2 ^ s_np s - 1 := rfl
  have bd : ∀ z : List Nat, (∀ r ∈ z, r ≤ s_top s) → ∀ l, ∀ r ∈ z ++ s_rows s l, r < 1024 := by
    intro z hz l r hr
    rcases List.mem_append.mp hr with h | h
    · have := hz r h
      omega
    · exact s_rows_1024 hw l (Nat.le_refl _) r h
  have sub : ∀ a b : List Nat, (∀ r ∈ a, l_sp b r = true) → ∀ l m, l_sp (a ++ s_rows s l) m = true → l_sp (b ++ s_rows s l) m = true := by
    intro a b hab l m hm
    refine l_sp_sub (fun r hr => ?_) hm
    rcases List.mem_append.mp hr with h | h
    · exact l_sp_sub (fun q hq => l_sp_mem (List.mem_append.mpr (Or.inl hq))) (hab r h)
    · exact l_sp_mem (List.mem_append.mpr (Or.inr h))
  have key : ∀ l, s_pw s x l = s_pw s y l := by
    intro l
    have e : l_wo (l_f (x ++ s_rows s l)) 0 10 = l_wo (l_f (y ++ s_rows s l)) 0 10 := Nat.eq_of_testBit_eq fun i => by
      rw [l_wo_sp (bd x hx l), l_wo_sp (bd y hy l)]
      have : l_sp (x ++ s_rows s l) (2 ^ i) = l_sp (y ++ s_rows s l) (2 ^ i) := Bool.eq_iff_iff.mpr ⟨sub x y h1 l _, sub y x h2 l _⟩
      rw [this]
    unfold s_pw
    rw [e]
  unfold s_pl
  simp only [key]
def p_all : Nat → List Nat
  | 0 => []
  | k + 1 => p_all k ++ [2 ^ k]
theorem p_all_mem {x : Nat} : ∀ {k : Nat}, x ∈ p_all k ↔ ∃ j, j < k ∧ x = 2 ^ j
  | 0 => by simp [p_all]
  | k + 1 => by
    simp only [p_all]
    rw [List.mem_append, p_all_mem, List.mem_singleton]
    constructor
    · rintro (⟨j, h1, h2⟩ | h)
      · exact ⟨j, by omega, h2⟩
      · exact ⟨k, by omega, h⟩
    · rintro ⟨j, h1, h2⟩
      by_cases e : j = k
      · subst e
        exact Or.inr h2
      · exact Or.inl ⟨j, by omega, h2⟩
theorem p_all_len : ∀ k, (p_all k).length = k
  | 0 => rfl
  | k + 1 => by simp [p_all, p_all_len k]
theorem p_all_pw : ∀ k, (p_all k).Pairwise (· < ·)
  | 0 => List.Pairwise.nil
  | k + 1 => by
    refine List.pairwise_append.mpr ⟨p_all_pw k, List.pairwise_singleton _ _, fun a ha b hb => ?_⟩
    obtain ⟨j, h1, h2⟩ := p_all_mem.mp ha
    rw [List.mem_singleton] at hb
    rw [h2, hb]
    exact Nat.pow_lt_pow_right (by decide) h1
theorem p_all_R (k : Nat) : pl_R (2 ^ k - 1) (p_all k) := by
  refine ⟨fun x hx => ?_, p_all_pw k⟩
  obtain ⟨j, h1, h2⟩ := p_all_mem.mp hx
  have h3 := Nat.two_pow_pos j
  have h4 : 2 ^ j < 2 ^ k := Nat.pow_lt_pow_right (by decide) h1
  omega
theorem s_pl_all {s : zS} (hw : s_wf s) : s_pl s (pl_rev [] (p_all (s_np s))) = true := by
  have hp : 2 ^ s_np s ≤ 1024 := p2n hw.1
  have hpp := Nat.two_pow_pos (s_np s)
  refine decide_eq_true fun l hl => ?_
  have bd : ∀ r ∈ pl_rev [] (p_all (s_np s)) ++ s_rows s l, r < 1024 := by
    intro r hr
    rcases List.mem_append.mp hr with h | h
    · rcases pl_rev_mem.mp h with h | h
      · cases h
      · have := ((p_all_R (s_np s)).1 r h).2
        omega
    · exact s_rows_1024 hw l (Nat.le_refl _) r h
  have wo : ∀ i, i < s_np s → (l_wo (l_f (pl_rev [] (p_all (s_np s)) ++ s_rows s l)) 0 10).testBit i = true := by
    intro i hi
    have := hw.1
    rw [l_wo_sp bd, decide_eq_true (by omega), Bool.true_and]
    exact l_sp_mem (List.mem_append.mpr (Or.inl (pl_rev_mem.mpr (Or.inr (p_all_mem.mpr ⟨i, hi, rfl⟩)))))
  have lt : ∀ a i, a < 2 ^ s_np s → a.testBit i = true → i < s_np s := by
    intro a i ha hb
    rcases Nat.lt_or_ge i (s_np s) with h | h
    · exact h
    · rw [q_hi ha h] at hb
      cases hb
  unfold s_pw l_sv
  split
  · by_cases e : s_hp s l = 2 ^ s_np s - 1
    · rw [decide_eq_true e]
      rfl
    · rw [decide_eq_false e, Bool.false_or]
      refine decide_eq_true fun h0 => e ?_
      refine g_sub_eq (q_df_all.mpr (s_hp_lt hw l)) (g_sub.mpr fun i hi => ?_)
      exact g_sub.mp h0 i (wo i (lt _ i (by omega) hi))
  · refine decide_eq_true (g_sub.mpr fun i hi => wo i (lt _ i (hw.2.2.2.2.1 l) hi))
/-- the least: how many masks, which -/
def s_fd (s : zS) (n : Nat) : Option (List Nat) := pl_find (s_pl s) pl_any (s_top s) n []
def r_sz (s : zS) : Nat := o_ff (fun n => (s_fd s n).isSome) (s_np s + 1) 0
def r_row (s : zS) : List Nat := (s_fd s (r_sz s)).getD []
theorem s_fd_all {s : zS} (hw : s_wf s) : ∃ e, s_fd s (s_np s) = some e := by
  cases h : s_fd s (s_np s) with
  | some e => exact ⟨e, rfl⟩
  | none =>
    have := pl_find_none h (p_all (s_np s)) (p_all_len _) (pl_V_0.mpr (p_all_R _))
    rw [s_pl_all hw] at this
    cases this
theorem r_sz_at {s : zS} {k : Nat} (hk : k ≤ s_np s) (hno : ∀ j, j < k → s_fd s j = none) {e : List Nat} (h : s_fd s k = some e) : r_sz s = k ∧ r_row s = e := by
  have e1 : r_sz s = k := by
    unfold r_sz
    rw [o_ff_skip _ k (by omega) (fun i hi => by rw [hno i hi]; rfl), show s_np s + 1 - k = (s_np s - k) + 1 by omega]
    simp only [o_ff]
    exact if_pos (by rw [h]; rfl)
  refine ⟨e1, ?_⟩
  unfold r_row
  rw [e1, h]
  rfl
theorem r_sz_le {s : zS} (hw : s_wf s) : r_sz s ≤ s_np s := by
  obtain ⟨e, he⟩ := s_fd_all hw
  have := o_ff_lt (P := fun n => (s_fd s n).isSome) (c := s_np s + 1) (k := 0) (n := s_np s + 1) (by omega) (by omega)
  unfold r_sz
  omega
theorem m_findLeast (d : Nat) (s : zS) (hw : s_wf s) (h5 : s_np s ≤ 5) (I : zI) (J : zJ) (hc : cI s I J) : z_C yX3_findLeast cX3_findLeast 2 (some .int) (d + 10) [.ref 1] (z_s (s_nl s)) I J 0 0 (fun r h' I' J' => r = some (.int (nI (r_sz s))) ∧ h' = z_s (s_nl s) ∧ plF I J I' J' ∧ ∀ i, i < r_sz s → I' 16 i = nI ((r_row s).getD i 0)) := by
  have w1 := hw.1
  refine z_C.of (by decide) (Nat.le_of_ble_eq_true rfl) fun K E X => ?_
  refine v_iconst (v := nI 0) E dX3_findLeast_0 (by decide) ?_
  refine v_istore_n E dX3_findLeast_1 (by decide) ?_
  have loop : ∀ k, k ≤ s_np s → (∀ j, j < k → s_fd s j = none) → ∀ I1 J1, plF I J I1 J1 → z_V K 2 [(0, .ref 1), (1, .int (nI k))] [] (z_s (s_nl s)) I1 J1 0 0 := by
    refine z_for _ ?_ (fun k hk ih => ?_)
    · intro hno I1 J1 hF
      have hc1 := hF.cI hc
      obtain ⟨e, he⟩ := s_fd_all hw
      have hr := r_sz_at (Nat.le_refl _) hno he
      have hsame : pl_find (s_pl s) pl_ok (s_top s) (s_np s) [] = some e := (pl_same (s_pl_hP hw) hno).trans he
      refine v_iload_n E dX3_findLeast_2 rfl ?_
      refine v_aload_n E dX3_findLeast_3 rfl ?_
      refine v_getIE E f_X3_51 dX3_findLeast_4 rfl rfl hc1.1 ?_
      refine v_icmp_geN (tgt := 27) E dX3_findLeast_7 (by decide) (by omega) (by omega) (fun c => ?_) (fun c => ?_)
      · refine v_aload_n E dX3_findLeast_27 rfl ?_
        refine v_iconst (v := nI 0) E dX3_findLeast_28 (by decide) ?_
        refine v_aload_n E dX3_findLeast_29 rfl ?_
        refine v_getIE E f_X3_51 dX3_findLeast_30 rfl rfl hc1.1 ?_
        refine v_callS E dX3_findLeast_33 k_X3_215 Y_X3_completes (m_completes s hw h5 (s_np s) (d + 9) (by omega) (s_np s) 0 (by omega) h5 I1 J1 hc1 (fun _ => 0) (fun i hi => absurd hi (by omega))) rfl rfl (Nat.le_of_ble_eq_true rfl) ?_
        rintro r h' I2 J2 ⟨rfl, rfl, p1, p2, p3⟩
        have hc2 := (hF.tr p1).cI hc
        refine v_pop E dX3_findLeast_36 rfl ?_
        refine v_aload_n E dX3_findLeast_37 rfl ?_
        refine v_getIE E f_X3_51 dX3_findLeast_38 rfl rfl hc2.1 ?_
        refine v_iret E X dX3_findLeast_41 ⟨by rw [hr.1], rfl, hF.tr p1, fun i hi => ?_⟩
        rw [hr.2]
        rw [hr.1] at hi
        have := p3 e hsame i hi
        rwa [Nat.zero_add] at this
      · exact absurd c (by omega)
    · intro hno I1 J1 hF
      have hc1 := hF.cI hc
      have hsame : pl_find (s_pl s) pl_ok (s_top s) k [] = s_fd s k := pl_same (s_pl_hP hw) hno
      refine v_iload_n E dX3_findLeast_2 rfl ?_
      refine v_aload_n E dX3_findLeast_3 rfl ?_
      refine v_getIE E f_X3_51 dX3_findLeast_4 rfl rfl hc1.1 ?_
      refine v_icmp_geN (tgt := 27) E dX3_findLeast_7 (by decide) (by omega) (by omega) (fun c => ?_) (fun c => ?_)
      · exact absurd c (by omega)
      · have hcall := m_completes s hw h5 k (d + 9) (by omega) k 0 (by omega) (by omega) I1 J1 hc1 (fun _ => 0) (fun i hi => absurd hi (by omega))
        unfold clQ at hcall
        rw [show r_has (fun _ => 0) 0 = [] from rfl, hsame] at hcall
        refine v_aload_n E dX3_findLeast_10 rfl ?_
        refine v_iconst (v := nI 0) E dX3_findLeast_11 (by decide) ?_
        refine v_iload_n E dX3_findLeast_12 rfl ?_
        refine v_callS E dX3_findLeast_13 k_X3_215 Y_X3_completes hcall rfl rfl (Nat.le_of_ble_eq_true rfl) ?_
        rintro r h' I2 J2 ⟨rfl, rfl, p1, p2, p3⟩
        cases he : s_fd s k with
        | none =>
          refine v_if_eqB (tgt := 21) E dX3_findLeast_16 (by decide)  (fun c6 => ?_) (fun c6 => ?_)
          · refine v_inc E dX3_findLeast_21 rfl (by decide) ?_
            refine v_goto (tgt := 2) E dX3_findLeast_24 (by decide) ?_
            refine ih (fun j hj => ?_) I2 J2 (hF.tr p1)
            rcases Nat.lt_or_eq_of_le (Nat.le_of_lt_succ hj) with h | h
            · exact hno j h
            · rw [h]
              exact he
          · cases c6
        | some e =>
          have hr := r_sz_at (by omega) hno he
          refine v_if_eqB (tgt := 21) E dX3_findLeast_16 (by decide)  (fun c6 => ?_) (fun c6 => ?_)
          · cases c6
          · refine v_iload_n E dX3_findLeast_19 rfl ?_
            refine v_iret E X dX3_findLeast_20 ⟨by rw [hr.1], rfl, hF.tr p1, fun i hi => ?_⟩
            rw [hr.2]
            rw [hr.1] at hi
            have := p3 e he i hi
            rwa [Nat.zero_add] at this
  exact loop 0 (by omega) (fun j hj => absurd hj (by omega)) I J (plF.rf I J)
def r_least (s : zS) : Int32 := if s_np s ≤ 5 then nI (r_sz s) else -5
def r_planned (s : zS) (x : Int32) : Int32 := if s_np s ≤ 5 then (if z_isx x (r_sz s) then nI ((r_row s).getD x.toNatClampNeg 0) else -1) else -1
theorem m_least (d : Nat) (s : zS) (hw : s_wf s) (I : zI) (J : zJ) (hc : cI s I J) : z_C yX3_least cX3_least 1 (some .int) (d + 11) [.ref 1] (z_s (s_nl s)) I J 0 0 (cR s (r_least s) I J) := by
  have w1 := hw.1
  refine z_C.of (by decide) (Nat.le_of_ble_eq_true rfl) fun K E X => ?_
  refine v_aload_n E dX3_least_0 rfl ?_
  refine v_getIE E f_X3_51 dX3_least_1 rfl rfl hc.1 ?_
  refine v_iconst (v := nI 5) E dX3_least_4 (by decide) ?_
  refine v_icmp_leN (tgt := 13) E dX3_least_5 (by decide) (by omega) (by omega) (fun c => ?_) (fun c => ?_)
  · refine v_aload_n E dX3_least_13 rfl ?_
    refine v_callV E dX3_least_14 k_X3_183 Y_X3_findLeast (m_findLeast d s hw c I J hc) rfl rfl rfl (Nat.le_of_ble_eq_true rfl) ?_
    rintro r h' I2 J2 ⟨rfl, rfl, p1, p2⟩
    exact v_iret E X dX3_least_17 ⟨by unfold r_least; rw [if_pos c], rfl, p1.cI hc, p1.mF⟩
  · refine v_bipush (v := -5) E dX3_least_8 (by decide) ?_
    refine v_goto (tgt := 17) E dX3_least_10 (by decide) ?_
    exact v_iret E X dX3_least_17 ⟨by unfold r_least; rw [if_neg (by omega)], rfl, hc, fun _ _ _ => ⟨rfl, rfl⟩⟩
theorem m_planned (d : Nat) (s : zS) (hw : s_wf s) (I : zI) (J : zJ) (hc : cI s I J) (x : Int32) : z_C yX3_planned cX3_planned 3 (some .int) (d + 11) [.ref 1, .int x] (z_s (s_nl s)) I J 0 0 (cR s (r_planned s x) I J) := by
  have w1 := hw.1
  have hle := r_sz_le hw
  refine z_C.of (by decide) (Nat.le_of_ble_eq_true rfl) fun K E X => ?_
  refine v_aload_n E dX3_planned_0 rfl ?_
  refine v_getIE E f_X3_51 dX3_planned_1 rfl rfl hc.1 ?_
  refine v_iconst (v := nI 5) E dX3_planned_4 (by decide) ?_
  refine v_icmp_leN (tgt := 10) E dX3_planned_5 (by decide) (by omega) (by omega) (fun c => ?_) (fun c => ?_)
  · refine v_aload_n E dX3_planned_10 rfl ?_
    refine v_callV E dX3_planned_11 k_X3_183 Y_X3_findLeast (m_findLeast d s hw c I J hc) rfl rfl rfl (Nat.le_of_ble_eq_true rfl) ?_
    rintro r h' I2 J2 ⟨rfl, rfl, p1, p2⟩
    have no : z_isx x (r_sz s) = false → z_V K 33 [(0, .ref 1), (1, .int x), (2, .int (nI (r_sz s)))] [] (z_s (s_nl s)) I2 J2 0 0 := by
      intro e
      refine v_iconst (v := -1) E dX3_planned_33 (by decide) ?_
      exact v_iret E X dX3_planned_34 ⟨by unfold r_planned; rw [if_pos c, e]; rfl, rfl, p1.cI hc, p1.mF⟩
    refine v_istore_n E dX3_planned_14 (by decide) ?_
    refine v_iload_n E dX3_planned_15 rfl ?_
    refine v_if_lt (tgt := 33) E dX3_planned_16 (by decide)  (fun k1 => ?_) (fun k1 => ?_)
    · exact no (decide_eq_false (fun z => z.1 k1))
    · refine v_iload_n E dX3_planned_19 rfl ?_
      refine v_iload_n E dX3_planned_20 rfl ?_
      refine v_icmp_ge (tgt := 33) E dX3_planned_21 (by decide)  (fun k2 => ?_) (fun k2 => ?_)
      · exact no (decide_eq_false (fun z => Int32.not_le.mpr z.2 k2))
      · have e : z_isx x (r_sz s) = true := decide_eq_true ⟨k1, Int32.not_le.mp k2⟩
        have e9 := e
        obtain ⟨a, ha, rfl⟩ := z_isx_true (by omega) e
        refine v_aload_n E dX3_planned_24 rfl ?_
        refine v_getR E f_X3_44 dX3_planned_25 rfl rfl rfl ?_
        refine v_iload_n E dX3_planned_28 rfl ?_
        refine v_ialoadE E dX3_planned_29 rfl rfl (by omega) (by decide) (p2 a ha) ?_
        refine v_goto (tgt := 34) E dX3_planned_30 (by decide) ?_
        exact v_iret E X dX3_planned_34 ⟨by unfold r_planned; rw [if_pos c, e9, nI_clamp (by omega)]; rfl, rfl, p1.cI hc, p1.mF⟩
  · refine v_iconst (v := -1) E dX3_planned_8 (by decide) ?_
    exact v_iret E X dX3_planned_9 ⟨by unfold r_planned; rw [if_neg (by omega)], rfl, hc, fun _ _ _ => ⟨rfl, rfl⟩⟩
