/-! THE LAW's loop -/
theorem lw_sw (x : Int32) : ∃ w, w < 32 ∧ x &&& nI 31 = nI w := by
  obtain ⟨m, hm, rfl⟩ := q_of x
  refine ⟨m &&& 31, ?_, q_and m 31⟩
  have : m &&& 31 ≤ 31 := Nat.and_le_right
  omega
theorem lw_loop {b0 L : Nat} {xs : Nat → Int32} {y : MethodName} {K : zK} (hy : y.cls = RL) (E : z_E y code 4 (some .boolean) 41 K) (S : z_Sc b0 L xs K) (X : z_XL b0 K) (hL : L ≤ 2560) : ∀ (n i : Nat), L < i + 5 * (n + 1) → i ≤ 2560 → ∀ (s : zS) (h : zH) (I : zI) (J : zJ), lwI s h I J → z_W b0 K 18 [(1, .ref 1), (2, .ref 17), (3, .int (nI i))] [] h I J (6 * n) (94 * n) := by
  have hL31 : L < 2 ^ 31 := by omega
  have stop : ∀ (i : Nat) (h : zH) (I : zI) (J : zJ) (kc ks : Nat), z_W b0 K 978 [(1, .ref 1), (2, .ref 17), (3, .int (nI i))] [] h I J kc ks := by
    intro i h I J kc ks
    refine u_iconst (v := 1) E dL_law_978 (by decide) ?_
    exact u_end E X dL_law_979
  intro n
  induction n with
  | zero =>
    intro i h1 h2 s h I J hI
    refine u_iload_n E dL_law_18 rfl ?_
    refine u_len E S dL_law_19 dL_law_20 ?_
    refine u_iconst (v := nI 5) E dL_law_21 (by decide) ?_
    refine u_isub E dL_law_22 ?_
    refine u_icmp_gt (tgt := 978) E dL_law_23 (by decide) (fun _ => ?_) (fun c => ?_)
    · exact stop i h I J _ _
    · exact absurd ((l_top hL h2).mpr (by omega)) c
  | succ n ih =>
    intro i h1 h2 s h I J hI
    obtain ⟨hw, rfl, hc, hm⟩ := hI
    have e1 : 6 * (n + 1) = 6 * n + 6 := by omega
    have e2 : 94 * (n + 1) = 94 * n + 94 := by omega
    rw [e1, e2]
    refine u_iload_n E dL_law_18 rfl ?_
    refine u_len E S dL_law_19 dL_law_20 ?_
    refine u_iconst (v := nI 5) E dL_law_21 (by decide) ?_
    refine u_isub E dL_law_22 ?_
    refine u_icmp_gt (tgt := 978) E dL_law_23 (by decide) (fun _ => ?_) (fun c => ?_)
    · exact stop i _ I J _ _
    · have hi : i + 5 ≤ L := by
        rcases Nat.lt_or_ge L (i + 5) with z | z
        · exact absurd ((l_top hL h2).mpr z) c
        · exact z
      have back : ∀ (s2 : zS) (h2 : zH) (I2 : zI) (J2 : zJ), lwI s2 h2 I2 J2 → z_W b0 K 972 [(1, .ref 1), (2, .ref 17), (3, .int (nI i))] [] h2 I2 J2 (6 * n) (94 * n) := by
        intro s2 h3 I2 J2 hI2
        refine u_iinc (v := nI (i + 5)) E dL_law_972 rfl (nI_add i 5) (by decide) (by decide) ?_
        refine u_goto (tgt := 18) E dL_law_975 (by decide) ?_
        exact ih (i + 5) (by omega) (by omega) s2 h3 I2 J2 hI2
      refine u_op E S hL31 (i := i) (by omega) dL_law_26 dL_law_27 dL_law_28 rfl ?_
      refine u_bipush (v := nI 31) E dL_law_29 (by decide) ?_
      refine u_iand E dL_law_31 ?_
      obtain ⟨w, hw32, ew⟩ := lw_sw (xs i)
      refine u_top ew ?_
      clear ew
      rcases (by omega : w = 0 ∨ w = 1 ∨ w = 2 ∨ w = 3 ∨ w = 4 ∨ w = 5 ∨ w = 6 ∨ w = 7 ∨ w = 8 ∨ w = 9 ∨ w = 10 ∨ w = 11 ∨ w = 12 ∨ w = 13 ∨ w = 14 ∨ w = 15 ∨ w = 16 ∨ w = 17 ∨ w = 18 ∨ w = 19 ∨ w = 20 ∨ w = 21 ∨ w = 22 ∨ w = 23 ∨ w = 24 ∨ w = 25 ∨ w = 26 ∨ w = 27 ∨ w = 28 ∨ w = 29 ∨ w = 30 ∨ w = 31) with rfl | rfl | rfl | rfl | rfl | rfl | rfl | rfl | rfl | rfl | rfl | rfl | rfl | rfl | rfl | rfl | rfl | rfl | rfl | rfl | rfl | rfl | rfl | rfl | rfl | rfl | rfl | rfl | rfl | rfl | rfl | rfl
      · refine u_tableIn (off := 136) (tgt := 168) E dL_law_32 (by decide) (by decide) (by decide) (by decide) ?_
        exact lw_c0 hy E S hL31 hi s hw I J hc hm back
      · refine u_tableIn (off := 189) (tgt := 221) E dL_law_32 (by decide) (by decide) (by decide) (by decide) ?_
        exact lw_c1 hy E S hL31 hi s hw I J hc hm back
      · refine u_tableIn (off := 213) (tgt := 245) E dL_law_32 (by decide) (by decide) (by decide) (by decide) ?_
        exact lw_c2 hy E S hL31 hi s hw I J hc hm back
      · refine u_tableIn (off := 236) (tgt := 268) E dL_law_32 (by decide) (by decide) (by decide) (by decide) ?_
        exact lw_c3 hy E S hL31 hi s hw I J hc hm back
      · refine u_tableIn (off := 269) (tgt := 301) E dL_law_32 (by decide) (by decide) (by decide) (by decide) ?_
        exact lw_c4 hy E S hL31 hi s hw I J hc hm back
      · refine u_tableIn (off := 302) (tgt := 334) E dL_law_32 (by decide) (by decide) (by decide) (by decide) ?_
        exact lw_c5 hy E S hL31 hi s hw I J hc hm back
      · refine u_tableIn (off := 335) (tgt := 367) E dL_law_32 (by decide) (by decide) (by decide) (by decide) ?_
        exact lw_c6 hy E S hL31 hi s hw I J hc hm back
      · refine u_tableIn (off := 358) (tgt := 390) E dL_law_32 (by decide) (by decide) (by decide) (by decide) ?_
        exact lw_c7 hy E S hL31 hi s hw I J hc hm back
      · refine u_tableIn (off := 381) (tgt := 413) E dL_law_32 (by decide) (by decide) (by decide) (by decide) ?_
        exact lw_c8 hy E S hL31 hi s hw I J hc hm back
      · refine u_tableIn (off := 414) (tgt := 446) E dL_law_32 (by decide) (by decide) (by decide) (by decide) ?_
        exact lw_c9 hy E S hL31 hi s hw I J hc hm back
      · refine u_tableIn (off := 438) (tgt := 470) E dL_law_32 (by decide) (by decide) (by decide) (by decide) ?_
        exact lw_c10 hy E S hL31 hi s hw I J hc hm back
      · refine u_tableIn (off := 471) (tgt := 503) E dL_law_32 (by decide) (by decide) (by decide) (by decide) ?_
        exact lw_c11 hy E S hL31 hi s hw I J hc hm back
      · refine u_tableIn (off := 504) (tgt := 536) E dL_law_32 (by decide) (by decide) (by decide) (by decide) ?_
        exact lw_c12 hy E S hL31 hi s hw I J hc hm back
      · refine u_tableIn (off := 537) (tgt := 569) E dL_law_32 (by decide) (by decide) (by decide) (by decide) ?_
        exact lw_c13 hy E S hL31 hi s hw I J hc hm back
      · refine u_tableIn (off := 570) (tgt := 602) E dL_law_32 (by decide) (by decide) (by decide) (by decide) ?_
        exact lw_c14 hy E S hL31 hi s hw I J hc hm back
      · refine u_tableIn (off := 604) (tgt := 636) E dL_law_32 (by decide) (by decide) (by decide) (by decide) ?_
        exact lw_c15 hy E S hL31 hi s hw I J hc hm back
      · refine u_tableIn (off := 638) (tgt := 670) E dL_law_32 (by decide) (by decide) (by decide) (by decide) ?_
        exact lw_c16 hy E S hL31 hi s hw I J hc hm back
      · refine u_tableIn (off := 671) (tgt := 703) E dL_law_32 (by decide) (by decide) (by decide) (by decide) ?_
        exact lw_c17 hy E S hL31 hi s hw I J hc hm back
      · refine u_tableIn (off := 684) (tgt := 716) E dL_law_32 (by decide) (by decide) (by decide) (by decide) ?_
        exact lw_c18 hy E S hL31 hi s hw I J hc hm back
      · refine u_tableIn (off := 697) (tgt := 729) E dL_law_32 (by decide) (by decide) (by decide) (by decide) ?_
        exact lw_c19 hy E S hL31 hi s hw I J hc hm back
      · refine u_tableIn (off := 730) (tgt := 762) E dL_law_32 (by decide) (by decide) (by decide) (by decide) ?_
        exact lw_c20 hy E S hL31 hi s hw I J hc hm back
      · refine u_tableIn (off := 743) (tgt := 775) E dL_law_32 (by decide) (by decide) (by decide) (by decide) ?_
        exact lw_c21 hy E S hL31 hi s hw I J hc hm back
      · refine u_tableIn (off := 766) (tgt := 798) E dL_law_32 (by decide) (by decide) (by decide) (by decide) ?_
        exact lw_c22 hy E S hL31 hi s hw I J hc hm back
      · refine u_tableIn (off := 779) (tgt := 811) E dL_law_32 (by decide) (by decide) (by decide) (by decide) ?_
        exact lw_c23 hy E S hL31 hi s hw I J hc hm back
      · refine u_tableIn (off := 802) (tgt := 834) E dL_law_32 (by decide) (by decide) (by decide) (by decide) ?_
        exact lw_c24 hy E S hL31 hi s hw I J hc hm back
      · refine u_tableIn (off := 815) (tgt := 847) E dL_law_32 (by decide) (by decide) (by decide) (by decide) ?_
        exact lw_c25 hy E S hL31 hi s hw I J hc hm back
      · refine u_tableIn (off := 838) (tgt := 870) E dL_law_32 (by decide) (by decide) (by decide) (by decide) ?_
        exact lw_c26 hy E S hL31 hi s hw I J hc hm back
      · refine u_tableIn (off := 891) (tgt := 923) E dL_law_32 (by decide) (by decide) (by decide) (by decide) ?_
        exact lw_c27 hy E S hL31 hi s hw I J hc hm back
      · refine u_tableIn (off := 904) (tgt := 936) E dL_law_32 (by decide) (by decide) (by decide) (by decide) ?_
        exact lw_c28 hy E S hL31 hi s hw I J hc hm back
      · refine u_tableIn (off := 917) (tgt := 949) E dL_law_32 (by decide) (by decide) (by decide) (by decide) ?_
        exact lw_c29 hy E S hL31 hi s hw I J hc hm back
      · refine u_tableOut (tgt := 972) E dL_law_32 (Or.inr (by decide)) (by decide) ?_
        refine u_wide (kc2 := 6 * n) (ks2 := 94 * n) (by omega) (by omega) ?_
        exact back s _ I J ⟨hw, rfl, hc, hm⟩
      · refine u_tableOut (tgt := 972) E dL_law_32 (Or.inr (by decide)) (by decide) ?_
        refine u_wide (kc2 := 6 * n) (ks2 := 94 * n) (by omega) (by omega) ?_
        exact back s _ I J ⟨hw, rfl, hc, hm⟩
