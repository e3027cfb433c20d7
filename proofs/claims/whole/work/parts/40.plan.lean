/-! PLAN: four masks tried -/
def pl_x (a b c e : Int32) : Nat → Int32 := fun i => match i with | 0 => a | 1 => b | 2 => c | _ => e
def p_sz (x : Nat → Int32) (np : Nat) : Nat → Option Nat
  | 0 => some 0
  | i + 1 => match p_sz x np i with
    | none => none
    | some n => if x i = 0 then some n else if decide (n < i) || !z_msk (x i) np then none else some (n + 1)
def r_plan (s : zS) (x : Nat → Int32) : Int32 := match p_sz x (s_np s) 4 with
  | none => -2
  | some n => nI (s_pl s (r_has (fun i => (x i).toNatClampNeg) n)).toNat
theorem p_sz_none {x : Nat → Int32} {np : Nat} : ∀ {i : Nat}, p_sz x np i = none → ∀ j, p_sz x np (i + j) = none
  | i, h, 0 => h
  | i, h, j + 1 => by
    have := p_sz_none h j
    show p_sz x np (i + j + 1) = none
    simp only [p_sz]
    rw [this]
theorem p_sz_le {x : Nat → Int32} {np : Nat} : ∀ {i n : Nat}, p_sz x np i = some n → n ≤ i ∧ ∀ j, j < n → z_msk (x j) np = true
  | 0, n, h => by
    cases h
    exact ⟨Nat.le_refl _, fun j hj => absurd hj (by omega)⟩
  | i + 1, n, h => by
    simp only [p_sz] at h
    cases hp : p_sz x np i with
    | none =>
      rw [hp] at h
      cases h
    | some m =>
      rw [hp] at h
      have ih := p_sz_le hp
      have h' : (if x i = 0 then some m else if (decide (m < i) || !z_msk (x i) np) = true then none else some (m + 1)) = some n := h
      split at h'
      · cases h'
        exact ⟨by omega, ih.2⟩
      · split at h'
        · cases h'
        · rename_i h1 h2
          cases h'
          simp only [Bool.or_eq_true, decide_eq_true_eq, Bool.not_eq_true', not_or, Bool.not_eq_false] at h2
          refine ⟨by omega, fun j hj => ?_⟩
          by_cases e : j = i
          · rw [e]
            exact h2.2
          · exact ih.2 j (by omega)
theorem m_plan (d : Nat) (s : zS) (hw : s_wf s) (I : zI) (J : zJ) (hc : cI s I J) (a b c e : Int32) : z_C yX3_plan cX3_plan 7 (some .int) (d + 4) [.ref 1, .int a, .int b, .int c, .int e] (z_s (s_nl s)) I J 0 0 (cR s (r_plan s (pl_x a b c e)) I J) := by
  have w1 := hw.1
  refine z_C.of (by decide) (Nat.le_of_ble_eq_true rfl) fun K E X => ?_
  refine v_aload_n E dX3_plan_0 rfl ?_
  refine v_getR E f_X3_44 dX3_plan_1 rfl rfl rfl ?_
  refine v_iconst (v := nI 0) E dX3_plan_4 (by decide) ?_
  refine v_iload_n E dX3_plan_5 rfl ?_
  refine v_iastore E dX3_plan_6 rfl rfl (by decide) (by decide) ?_
  refine v_aload_n E dX3_plan_7 rfl ?_
  refine v_getR E f_X3_44 dX3_plan_8 rfl rfl rfl ?_
  refine v_iconst (v := nI 1) E dX3_plan_11 (by decide) ?_
  refine v_iload_n E dX3_plan_12 rfl ?_
  refine v_iastore E dX3_plan_13 rfl rfl (by decide) (by decide) ?_
  refine v_aload_n E dX3_plan_14 rfl ?_
  refine v_getR E f_X3_44 dX3_plan_15 rfl rfl rfl ?_
  refine v_iconst (v := nI 2) E dX3_plan_18 (by decide) ?_
  refine v_iload_n E dX3_plan_19 rfl ?_
  refine v_iastore E dX3_plan_20 rfl rfl (by decide) (by decide) ?_
  refine v_aload_n E dX3_plan_21 rfl ?_
  refine v_getR E f_X3_44 dX3_plan_22 rfl rfl rfl ?_
  refine v_iconst (v := nI 3) E dX3_plan_25 (by decide) ?_
  refine v_iload E dX3_plan_26 rfl ?_
  refine v_iastore E dX3_plan_28 rfl rfl (by decide) (by decide) ?_
  refine v_iconst (v := nI 0) E dX3_plan_29 (by decide) ?_
  refine v_istore E dX3_plan_30 (by decide) ?_
  refine v_iconst (v := nI 0) E dX3_plan_32 (by decide) ?_
  refine v_istore E dX3_plan_33 (by decide) ?_
  generalize hI1 : z_u (z_u (z_u (z_u I 16 0 a) 16 1 b) 16 2 c) 16 3 e = I1
  have hF : plF I J I1 J := by
    rw [← hI1]
    exact ⟨fun q _ _ h => by rw [z_u_row h, z_u_row h, z_u_row h, z_u_row h], fun _ _ => rfl⟩
  have hx : ∀ i, i < 4 → I1 16 i = pl_x a b c e i := by
    intro i hi
    rw [← hI1]
    rcases (by omega : i = 0 ∨ i = 1 ∨ i = 2 ∨ i = 3) with rfl | rfl | rfl | rfl <;> rfl
  generalize hxx : pl_x a b c e = x at *
  have hc1 := hF.cI hc
  have loop : ∀ i, i ≤ 4 → ∀ n, p_sz x (s_np s) i = some n → ∀ ls : zL, (∀ q ∈ [(0, Value.ref 1), (5, .int (nI n)), (6, .int (nI i))], z_at ls q.1 = some q.2) → z_V K 35 ls [] (z_s (s_nl s)) I1 J 0 0 := by
    refine z_for 4 ?_ (fun i hi ih => ?_)
    · intro n hn ls hls
      have hp := p_sz_le hn
      refine v_ls hls ?_
      refine v_iload E dX3_plan_35 rfl ?_
      refine v_iconst (v := nI 4) E dX3_plan_37 (by decide) ?_
      refine v_icmp_geN (tgt := 84) E dX3_plan_38 (by decide) (by omega) (by omega) (fun k1 => ?_) (fun k1 => ?_)
      · refine v_aload_n E dX3_plan_84 rfl ?_
        refine v_iload E dX3_plan_85 rfl ?_
        refine v_callV E dX3_plan_87 k_X3_186 Y_X3_isPlan (m_isPlan d s hw I1 J hc1 (fun i => (x i).toNatClampNeg) n (by omega) (fun i hi => ?_)) rfl rfl rfl (Nat.le_of_ble_eq_true rfl) ?_
        · obtain ⟨m, m0, m1, m2⟩ := z_msk_true w1 (hp.2 i hi)
          have hm := p2_10 w1 m1
          rw [hx i (by omega)]
          show x i = nI (x i).toNatClampNeg ∧ (x i).toNatClampNeg < 1024
          rw [m2, nI_clamp (by omega)]
          exact ⟨rfl, hm⟩
        · rintro r h' I2 J2 ⟨rfl, rfl, g⟩
          refine v_callS1 E dX3_plan_90 k_X3_104 Y_X3_oneIf (m_oneIf (d + 3) (z_s (s_nl s)) I2 J2 (s_pl s (r_has (fun i => (x i).toNatClampNeg) n))) rfl rfl (Nat.le_of_ble_eq_true rfl) ?_
          exact v_iret E X dX3_plan_93 ⟨by unfold r_plan; rw [hn], rfl, (hF.tr g.F).cI hc, (hF.tr g.F).mF⟩
      · exact absurd k1 (by omega)
    · intro n hn ls hls
      have hp := p_sz_le hn
      have estep : p_sz x (s_np s) (i + 1) = if x i = 0 then some n else if (decide (n < i) || !z_msk (x i) (s_np s)) = true then none else some (n + 1) := by
        simp only [p_sz]
        rw [hn]
      have bad : p_sz x (s_np s) (i + 1) = none → z_V K 72 [(0, Value.ref 1), (5, .int (nI n)), (6, .int (nI i))] [] (z_s (s_nl s)) I1 J 0 0 := by
        intro hb
        have h4 := p_sz_none hb (4 - (i + 1))
        rw [show i + 1 + (4 - (i + 1)) = 4 by omega] at h4
        refine v_bipush (v := -2) E dX3_plan_72 (by decide) ?_
        exact v_iret E X dX3_plan_74 ⟨by unfold r_plan; rw [h4], rfl, hc1, hF.mF⟩
      refine v_ls hls ?_
      refine v_iload E dX3_plan_35 rfl ?_
      refine v_iconst (v := nI 4) E dX3_plan_37 (by decide) ?_
      refine v_icmp_geN (tgt := 84) E dX3_plan_38 (by decide) (by omega) (by omega) (fun k1 => ?_) (fun k1 => ?_)
      · exact absurd k1 (by omega)
      · refine v_aload_n E dX3_plan_41 rfl ?_
        refine v_getR E f_X3_44 dX3_plan_42 rfl rfl rfl ?_
        refine v_iload E dX3_plan_45 rfl ?_
        refine v_ialoadE E dX3_plan_47 rfl rfl (by omega) (by decide) (hx i hi) ?_
        refine v_if_eq (tgt := 78) E dX3_plan_48 (by decide)  (fun k2 => ?_) (fun k2 => ?_)
        · refine v_inc E dX3_plan_78 rfl (by decide) ?_
          refine v_goto (tgt := 35) E dX3_plan_81 (by decide) ?_
          refine ih n (by rw [estep, if_pos k2]) _ ?_
          intro q hq
          simp only [List.mem_cons, List.not_mem_nil, or_false] at hq
          rcases hq with rfl | rfl | rfl <;> rfl
        · rw [if_neg k2] at estep
          refine v_iload E dX3_plan_51 rfl ?_
          refine v_iload E dX3_plan_53 rfl ?_
          refine v_icmp_ltN (tgt := 72) E dX3_plan_55 (by decide) (by omega) (by omega) (fun k3 => ?_) (fun k3 => ?_)
          · exact bad (by rw [estep, decide_eq_true k3]; rfl)
          · refine v_aload_n E dX3_plan_58 rfl ?_
            refine v_aload_n E dX3_plan_59 rfl ?_
            refine v_getR E f_X3_44 dX3_plan_60 rfl rfl rfl ?_
            refine v_iload E dX3_plan_63 rfl ?_
            refine v_ialoadE E dX3_plan_65 rfl rfl (by omega) (by decide) (hx i hi) ?_
            refine v_callV1 E dX3_plan_66 k_X3_88 Y_X3_isMask (m_isMask (d + 2) (s_nl s) (s_np s) I1 J hc1.1 w1 (x i)) rfl rfl rfl (Nat.le_of_ble_eq_true rfl) ?_
            refine v_if_neB (tgt := 75) E dX3_plan_69 (by decide)  (fun k4 => ?_) (fun k4 => ?_)
            · refine v_inc E dX3_plan_75 rfl (by decide) ?_
              refine v_inc E dX3_plan_78 rfl (by decide) ?_
              refine v_goto (tgt := 35) E dX3_plan_81 (by decide) ?_
              refine ih (n + 1) (by rw [estep, decide_eq_false (by omega), k4]; rfl) _ ?_
              intro q hq
              simp only [List.mem_cons, List.not_mem_nil, or_false] at hq
              rcases hq with rfl | rfl | rfl <;> rfl
            · exact bad (by rw [estep, k4]; simp)
  refine loop 0 (by omega) 0 rfl _ ?_
  intro q hq
  simp only [List.mem_cons, List.not_mem_nil, or_false] at hq
  rcases hq with rfl | rfl | rfl <;> rfl
