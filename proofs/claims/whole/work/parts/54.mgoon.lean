/-! THE MODEL: plan, going on -/
def p_n (a b c e : Int32) : Nat := if a = 0 then 0 else if b = 0 then 1 else if c = 0 then 2 else if e = 0 then 3 else 4
def p_g1 (n : Nat) (b c e : Int32) : Bool := (decide (0 < n) || decide (b = 0)) && ((decide (1 < n) || decide (c = 0)) && (decide (2 < n) || decide (e = 0)))
def p_g2 (np n : Nat) (a b c e : Int32) : Bool := (decide (n < 1) || z_msk a np) && ((decide (n < 2) || z_msk b np) && ((decide (n < 3) || z_msk c np) && (decide (n < 4) || z_msk e np)))
theorem p_sz_eq (np : Nat) (a b c e : Int32) : p_sz (pl_x a b c e) np 4 = if p_g1 (p_n a b c e) b c e && p_g2 np (p_n a b c e) a b c e then some (p_n a b c e) else none := by
  simp only [p_sz, pl_x, p_n, p_g1, p_g2]
  by_cases ha : a = 0 <;> by_cases hb : b = 0 <;> by_cases hc : c = 0 <;> by_cases he : e = 0 <;> rcases Bool.eq_false_or_eq_true (z_msk a np) with h1 | h1 <;> rcases Bool.eq_false_or_eq_true (z_msk b np) with h2 | h2 <;> rcases Bool.eq_false_or_eq_true (z_msk c np) with h3 | h3 <;> rcases Bool.eq_false_or_eq_true (z_msk e np) with h4 | h4 <;> simp [ha, hb, hc, he, h1, h2, h3, h4]
theorem mm_plan (d nl : Nat) (s : zS) (hw : s_wf s) (I : zI) (J : zJ) (hm : mI s I J) (a b c e : Int32) : z_C yX4_plan cX4_plan 9 (some .int) (d + 2) [.ref 17, .int a, .int b, .int c, .int e] (z_s nl) I J 0 0 (mR (.int (r_plan s (pl_x a b c e))) nl I J) := by
  have w1 := hw.1
  have w2 := hw.2.1
  have hsz := p_sz_eq (s_np s) a b c e
  have hle := p_sz_le (x := pl_x a b c e) (np := s_np s) (i := 4) (n := p_n a b c e)
  have hn4 : p_n a b c e ≤ 4 := by unfold p_n; split <;> (try split) <;> (try split) <;> (try split) <;> omega
  have hr : r_plan s (pl_x a b c e) = match p_sz (pl_x a b c e) (s_np s) 4 with | none => -2 | some n => nI (s_pl s (r_has (fun i => (pl_x a b c e i).toNatClampNeg) n)).toNat := rfl
  have key : ∀ n, p_n a b c e = n → True := fun _ _ => trivial
  refine z_C.of (by decide) (Nat.le_of_ble_eq_true rfl) fun K E X => ?_
  have main : ∀ n, p_n a b c e = n → z_V K 34 [(0, .ref 17), (1, .int a), (2, .int b), (3, .int c), (4, .int e)] [.int (nI n)] (z_s nl) I J 0 0 := by
    intro n hpn
    rw [hpn] at hsz hle hn4
    -- bad
    have bad : ∀ g : Bool, (p_g1 n b c e && p_g2 (s_np s) n a b c e) = false → g = false → z_V K 140 [(0, .ref 17), (1, .int a), (2, .int b), (3, .int c), (4, .int e), (5, .int (nI n)), (6, .int (nI (p_g1 n b c e).toNat))] [.int (nI g.toNat)] (z_s nl) I J 0 0 := by
      rintro g hg rfl
      rw [hg] at hsz
      refine v_istore E dX4_plan_140 (by decide) ?_
      refine v_iload E dX4_plan_142 rfl ?_
      refine v_if_neB (tgt := 150) E dX4_plan_144 (by decide)  (fun k => ?_) (fun k => ?_)
      · cases k
      · refine v_bipush (v := -2) E dX4_plan_147 (by decide) ?_
        exact v_iret E X dX4_plan_149 (mR.e (by rw [hr, hsz]; rfl) (mS.rf I))
    have good : (p_g1 n b c e && p_g2 (s_np s) n a b c e) = true → z_V K 140 [(0, .ref 17), (1, .int a), (2, .int b), (3, .int c), (4, .int e), (5, .int (nI n)), (6, .int (nI (p_g1 n b c e).toNat))] [.int (nI 1)] (z_s nl) I J 0 0 := by
      intro hg
      rw [hg] at hsz
      have hsz : p_sz (pl_x a b c e) (s_np s) 4 = some n := hsz
      have hx := (hle hsz).2
      have hr2 : r_plan s (pl_x a b c e) = nI (s_pl s (r_has (fun i => (pl_x a b c e i).toNatClampNeg) n)).toNat := by rw [hr, hsz]
      have hf : ∀ j, j < n → pl_x a b c e j = nI (pl_x a b c e j).toNatClampNeg ∧ (pl_x a b c e j).toNatClampNeg < 2 ^ s_np s := by
        intro j hj
        obtain ⟨m, h0, h1, h2⟩ := z_msk_true w1 (hx j hj)
        have := p2_10 w1 h1
        rw [h2, nI_clamp (by omega)]
        exact ⟨rfl, h1⟩
      generalize hms : (fun i => (pl_x a b c e i).toNatClampNeg) = f at hr2
      have hff : ∀ j, f j = (pl_x a b c e j).toNatClampNeg := fun j => by rw [← hms]
      have hmsr : ∀ r ∈ r_has f n, r < 2 ^ s_np s := fun r h => by
        obtain ⟨j, h1, h2⟩ := r_has_mem h
        rw [h2, hff]
        exact (hf j h1).2
      refine v_istore E dX4_plan_140 (by decide) ?_
      refine v_iload E dX4_plan_142 rfl ?_
      refine v_if_neN (tgt := 150) E dX4_plan_144 (by decide) (by omega) (fun k => ?_) (fun k => ?_)
      · refine v_iconst (v := nI 1) E dX4_plan_150 (by decide) ?_
        refine v_istore E dX4_plan_151 (by decide) ?_
        refine v_iconst (v := nI 0) E dX4_plan_153 (by decide) ?_
        refine v_istore E dX4_plan_154 (by decide) ?_
        have loop : ∀ l, l ≤ s_nl s → ∀ I', mS I I' → z_V K 156 [(0, .ref 17), (1, .int a), (2, .int b), (3, .int c), (4, .int e), (5, .int (nI n)), (6, .int (nI 1)), (7, .int (nI (b_all (s_pw s (r_has f n)) l).toNat)), (8, .int (nI l))] [] (z_s nl) I' J 0 0 := by
          refine z_for _ ?_ (fun l hl ih => ?_)
          · intro I' hS
            have hmi := hS.mI hm
            refine v_iload E dX4_plan_156 rfl ?_
            refine v_aload_n E dX4_plan_158 rfl ?_
            refine v_getIE E f_X4_13 dX4_plan_159 rfl rfl hmi.2.1 ?_
            refine v_icmp_geN (tgt := 251) E dX4_plan_162 (by decide) (by omega) (by omega) (fun k2 => ?_) (fun k2 => ?_)
            · refine v_iload E dX4_plan_251 rfl ?_
              rw [← s_pl_all2]
              refine v_if_eqB (tgt := 260) E dX4_plan_253 (by decide)  (fun k3 => ?_) (fun k3 => ?_)
              · refine v_iconst (v := nI 0) E dX4_plan_260 (by decide) ?_
                exact v_iret E X dX4_plan_261 (mR.e (by rw [hr2, k3]; rfl) hS)
              · refine v_iconst (v := nI 1) E dX4_plan_256 (by decide) ?_
                refine v_goto (tgt := 261) E dX4_plan_257 (by decide) ?_
                exact v_iret E X dX4_plan_261 (mR.e (by rw [hr2, k3]; rfl) hS)
            · exact absurd k2 (by omega)
          · intro I' hS
            have hmi := hS.mI hm
            have h52 := s_len52 hw l
            have last : ∀ I2, mS I I2 → knO l (r_has f n ++ s_rows s l) I2 → z_V K 223 [(0, .ref 17), (1, .int a), (2, .int b), (3, .int c), (4, .int e), (5, .int (nI n)), (6, .int (nI 1)), (7, .int (nI (b_all (s_pw s (r_has f n)) l).toNat)), (8, .int (nI l))] [] (z_s nl) I2 J 0 0 := by
              intro I2 hS2 hO
              have fin : ∀ g : Bool, g = (b_all (s_pw s (r_has f n)) l && s_pw s (r_has f n) l) → z_V K 243 [(0, .ref 17), (1, .int a), (2, .int b), (3, .int c), (4, .int e), (5, .int (nI n)), (6, .int (nI 1)), (7, .int (nI (b_all (s_pw s (r_has f n)) l).toNat)), (8, .int (nI l))] [.int (nI g.toNat)] (z_s nl) I2 J 0 0 := by
                rintro g rfl
                refine v_istore E dX4_plan_243 (by decide) ?_
                refine v_inc E dX4_plan_245 rfl (by decide) ?_
                refine v_goto (tgt := 156) E dX4_plan_248 (by decide) ?_
                exact ih I2 hS2
              refine v_iload E dX4_plan_223 rfl ?_
              refine v_if_eqB (tgt := 242) E dX4_plan_225 (by decide)  (fun k3 => ?_) (fun k3 => ?_)
              · refine v_iconst (v := nI 0) E dX4_plan_242 (by decide) ?_
                exact fin false (by rw [k3]; rfl)
              · refine v_aload_n E dX4_plan_228 rfl ?_
                refine v_iload E dX4_plan_229 rfl ?_
                refine v_iconst (v := nI 0) E dX4_plan_231 (by decide) ?_
                refine v_callV1 E dX4_plan_232 k_X4_130 Y_X4_isServed (mm_served0 d nl s hw I2 J (hS2.mI hm) l hl (r_has f n ++ s_rows s l) (fun r h => (List.mem_append.mp h).elim (hmsr r) (s_rows_np hw l (Nat.le_refl _) r)) hO) rfl rfl rfl (Nat.le_of_ble_eq_true rfl) ?_
                change z_V K _ _ (.int (nI (s_pw s (r_has f n) l).toNat) :: _) _ _ _ _ _
                refine v_if_eqB (tgt := 242) E dX4_plan_235 (by decide)  (fun k4 => ?_) (fun k4 => ?_)
                · refine v_iconst (v := nI 0) E dX4_plan_242 (by decide) ?_
                  exact fin false (by rw [k4, Bool.and_false])
                · refine v_iconst (v := nI 1) E dX4_plan_238 (by decide) ?_
                  refine v_goto (tgt := 243) E dX4_plan_239 (by decide) ?_
                  exact fin true (by rw [k3, k4]; rfl)
            have mn : ∀ j, j < n → min j n = j ∧ min (j + 1) n = j + 1 := fun j hj => ⟨by omega, by omega⟩
            have mx : ∀ j, n ≤ j → min j n = n ∧ min (j + 1) n = n := fun j hj => ⟨by omega, by omega⟩
            have lenb : ∀ j, j ≤ 3 → (r_has f (min j n) ++ s_rows s l).length < 56 := fun j hj => by
              rw [List.length_append, r_has_len]
              omega
            have s3 : ∀ I2, mS I I2 → knR (r_has f (min 3 n) ++ s_rows s l) I2 → knO l (r_has f (min 3 n) ++ s_rows s l) I2 → z_V K 209 [(0, .ref 17), (1, .int a), (2, .int b), (3, .int c), (4, .int e), (5, .int (nI n)), (6, .int (nI 1)), (7, .int (nI (b_all (s_pw s (r_has f n)) l).toNat)), (8, .int (nI l))] [] (z_s nl) I2 J 0 0 := by
              intro I2 hS2 hR hO
              refine v_iload E dX4_plan_209 rfl ?_
              refine v_iconst (v := nI 3) E dX4_plan_211 (by decide) ?_
              refine v_icmp_leN (tgt := 223) E dX4_plan_212 (by decide) (by omega) (by omega) (fun k3 => ?_) (fun k3 => ?_)
              · rw [(mx 3 k3).1] at hO
                exact last I2 hS2 hO
              · have hfj := hf 3 k3
                rw [← hff] at hfj
                refine v_aload_n E dX4_plan_215 rfl ?_
                refine v_iload E dX4_plan_216 rfl ?_
                refine v_iload E dX4_plan_218 rfl ?_
                refine v_top (x2 := nI (f 3)) hfj.1 ?_
                refine v_callV E dX4_plan_220 k_X4_116 Y_X4_take (mm_take (d + 1) nl _ I2 J hR l (by omega) hO (lenb 3 (by omega)) (f 3) (p2_10 w1 hfj.2)) rfl rfl rfl (Nat.le_of_ble_eq_true rfl) ?_
                rintro r h' I3 J3 ⟨rfl, rfl, g1, g2, g3, rfl⟩
                have em : r_has f n = f 3 :: r_has f (min 3 n) := by
                  rw [(mn 3 k3).1, show n = 3 + 1 by omega]
                  rfl
                refine last I3 (hS2.tr g3.mS) ?_
                rw [em]
                exact g2
            have s2 : ∀ I2, mS I I2 → knR (r_has f (min 2 n) ++ s_rows s l) I2 → knO l (r_has f (min 2 n) ++ s_rows s l) I2 → z_V K 196 [(0, .ref 17), (1, .int a), (2, .int b), (3, .int c), (4, .int e), (5, .int (nI n)), (6, .int (nI 1)), (7, .int (nI (b_all (s_pw s (r_has f n)) l).toNat)), (8, .int (nI l))] [] (z_s nl) I2 J 0 0 := by
              intro I2 hS2 hR hO
              refine v_iload E dX4_plan_196 rfl ?_
              refine v_iconst (v := nI 2) E dX4_plan_198 (by decide) ?_
              refine v_icmp_leN (tgt := 209) E dX4_plan_199 (by decide) (by omega) (by omega) (fun k3 => ?_) (fun k3 => ?_)
              · have hq := mx 2 k3
                refine s3 I2 hS2 ?_ ?_
                · rw [hq.2]; rw [hq.1] at hR; exact hR
                · rw [hq.2]; rw [hq.1] at hO; exact hO
              · have hfj := hf 2 k3
                rw [← hff] at hfj
                refine v_aload_n E dX4_plan_202 rfl ?_
                refine v_iload E dX4_plan_203 rfl ?_
                refine v_iload_n E dX4_plan_205 rfl ?_
                refine v_top (x2 := nI (f 2)) hfj.1 ?_
                refine v_callV E dX4_plan_206 k_X4_116 Y_X4_take (mm_take (d + 1) nl _ I2 J hR l (by omega) hO (lenb 2 (by omega)) (f 2) (p2_10 w1 hfj.2)) rfl rfl rfl (Nat.le_of_ble_eq_true rfl) ?_
                rintro r h' I3 J3 ⟨rfl, rfl, g1, g2, g3, rfl⟩
                have em : r_has f (min 3 n) = f 2 :: r_has f (min 2 n) := by
                  rw [(mn 2 k3).1, (mn 2 k3).2]
                  rfl
                refine s3 I3 (hS2.tr g3.mS) ?_ ?_
                · rw [em]; exact g1
                · rw [em]; exact g2
            have s1 : ∀ I2, mS I I2 → knR (r_has f (min 1 n) ++ s_rows s l) I2 → knO l (r_has f (min 1 n) ++ s_rows s l) I2 → z_V K 183 [(0, .ref 17), (1, .int a), (2, .int b), (3, .int c), (4, .int e), (5, .int (nI n)), (6, .int (nI 1)), (7, .int (nI (b_all (s_pw s (r_has f n)) l).toNat)), (8, .int (nI l))] [] (z_s nl) I2 J 0 0 := by
              intro I2 hS2 hR hO
              refine v_iload E dX4_plan_183 rfl ?_
              refine v_iconst (v := nI 1) E dX4_plan_185 (by decide) ?_
              refine v_icmp_leN (tgt := 196) E dX4_plan_186 (by decide) (by omega) (by omega) (fun k3 => ?_) (fun k3 => ?_)
              · have hq := mx 1 k3
                refine s2 I2 hS2 ?_ ?_
                · rw [hq.2]; rw [hq.1] at hR; exact hR
                · rw [hq.2]; rw [hq.1] at hO; exact hO
              · have hfj := hf 1 k3
                rw [← hff] at hfj
                refine v_aload_n E dX4_plan_189 rfl ?_
                refine v_iload E dX4_plan_190 rfl ?_
                refine v_iload_n E dX4_plan_192 rfl ?_
                refine v_top (x2 := nI (f 1)) hfj.1 ?_
                refine v_callV E dX4_plan_193 k_X4_116 Y_X4_take (mm_take (d + 1) nl _ I2 J hR l (by omega) hO (lenb 1 (by omega)) (f 1) (p2_10 w1 hfj.2)) rfl rfl rfl (Nat.le_of_ble_eq_true rfl) ?_
                rintro r h' I3 J3 ⟨rfl, rfl, g1, g2, g3, rfl⟩
                have em : r_has f (min 2 n) = f 1 :: r_has f (min 1 n) := by
                  rw [(mn 1 k3).1, (mn 1 k3).2]
                  rfl
                refine s2 I3 (hS2.tr g3.mS) ?_ ?_
                · rw [em]; exact g1
                · rw [em]; exact g2
            refine v_iload E dX4_plan_156 rfl ?_
            refine v_aload_n E dX4_plan_158 rfl ?_
            refine v_getIE E f_X4_13 dX4_plan_159 rfl rfl hmi.2.1 ?_
            refine v_icmp_geN (tgt := 251) E dX4_plan_162 (by decide) (by omega) (by omega) (fun k2 => ?_) (fun k2 => ?_)
            · exact absurd k2 (by omega)
            · refine v_aload_n E dX4_plan_165 rfl ?_
              refine v_iload E dX4_plan_166 rfl ?_
              refine v_callV E dX4_plan_168 k_X4_120 Y_X4_know (mm_know d nl s hw I' J hmi l hl) rfl rfl rfl (Nat.le_of_ble_eq_true rfl) ?_
              rintro r h' I2 J2 ⟨rfl, rfl, g1, g2, g3, rfl⟩
              refine v_iload E dX4_plan_171 rfl ?_
              refine v_if_leN (tgt := 183) E dX4_plan_173 (by decide) (by omega) (fun k3 => ?_) (fun k3 => ?_)
              · have e1 : r_has f (min 1 n) = [] := by rw [show min 1 n = 0 by omega]; rfl
                refine s1 I2 (hS.tr g3.mS) ?_ ?_
                · rw [e1]; exact g1
                · rw [e1]; exact g2
              · have hfj := hf 0 k3
                rw [← hff] at hfj
                refine v_aload_n E dX4_plan_176 rfl ?_
                refine v_iload E dX4_plan_177 rfl ?_
                refine v_iload_n E dX4_plan_179 rfl ?_
                refine v_top (x2 := nI (f 0)) hfj.1 ?_
                refine v_callV E dX4_plan_180 k_X4_116 Y_X4_take (mm_take (d + 1) nl _ I2 J2 g1 l (by omega) g2 (by omega) (f 0) (p2_10 w1 hfj.2)) rfl rfl rfl (Nat.le_of_ble_eq_true rfl) ?_
                rintro r h' I3 J3 ⟨rfl, rfl, p1, p2, p3, rfl⟩
                have e1 : r_has f (min 1 n) = [f 0] := by rw [show min 1 n = 1 by omega]; rfl
                refine s1 I3 ((hS.tr g3.mS).tr p3.mS) ?_ ?_
                · rw [e1]; exact p1
                · rw [e1]; exact p2
        exact loop 0 (by omega) I (mS.rf I)
      · exact absurd k (by omega)
    -- the second half of the test
    have no : (p_g1 n b c e && p_g2 (s_np s) n a b c e) = false → z_V K 139 [(0, .ref 17), (1, .int a), (2, .int b), (3, .int c), (4, .int e), (5, .int (nI n)), (6, .int (nI (p_g1 n b c e).toNat))] [] (z_s nl) I J 0 0 := by
      intro hg
      refine v_iconst (v := nI 0) E dX4_plan_139 (by decide) ?_
      exact bad false hg rfl
    have g2d : p_g2 (s_np s) n a b c e = ((decide (n < 1) || z_msk a (s_np s)) && ((decide (n < 2) || z_msk b (s_np s)) && ((decide (n < 3) || z_msk c (s_np s)) && (decide (n < 4) || z_msk e (s_np s))))) := rfl
    have yes : p_g1 n b c e = true → p_g2 (s_np s) n a b c e = true → z_V K 135 [(0, .ref 17), (1, .int a), (2, .int b), (3, .int c), (4, .int e), (5, .int (nI n)), (6, .int (nI (p_g1 n b c e).toNat))] [] (z_s nl) I J 0 0 := by
      intro h1 h2
      refine v_iconst (v := nI 1) E dX4_plan_135 (by decide) ?_
      refine v_goto (tgt := 140) E dX4_plan_136 (by decide) ?_
      exact good (by rw [h1, h2]; rfl)
    have q4 : p_g1 n b c e = true → (decide (n < 1) || z_msk a (s_np s)) = true → (decide (n < 2) || z_msk b (s_np s)) = true → (decide (n < 3) || z_msk c (s_np s)) = true → z_V K 120 [(0, .ref 17), (1, .int a), (2, .int b), (3, .int c), (4, .int e), (5, .int (nI n)), (6, .int (nI (p_g1 n b c e).toNat))] [] (z_s nl) I J 0 0 := by
      intro h1 y1 y2 y3
      refine v_iload E dX4_plan_120 rfl ?_
      refine v_iconst (v := nI 4) E dX4_plan_122 (by decide) ?_
      refine v_icmp_ltN (tgt := 135) E dX4_plan_123 (by decide) (by omega) (by omega) (fun k => ?_) (fun k => ?_)
      · exact yes h1 (by rw [g2d, y1, y2, y3, decide_eq_true k]; rfl)
      · refine v_aload_n E dX4_plan_126 rfl ?_
        refine v_iload E dX4_plan_127 rfl ?_
        refine v_callV1 E dX4_plan_129 k_X4_95 Y_X4_isMask (mm_isMask (d + 1) nl I J hm.1 w1 e) rfl rfl rfl (Nat.le_of_ble_eq_true rfl) ?_
        refine v_if_eqB (tgt := 139) E dX4_plan_132 (by decide)  (fun k2 => ?_) (fun k2 => ?_)
        · exact no (by rw [g2d, k2, decide_eq_false (by omega : ¬ n < 4)]; simp)
        · exact yes h1 (by rw [g2d, y1, y2, y3, k2, Bool.or_true]; rfl)
    have q3 : p_g1 n b c e = true → (decide (n < 1) || z_msk a (s_np s)) = true → (decide (n < 2) || z_msk b (s_np s)) = true → z_V K 106 [(0, .ref 17), (1, .int a), (2, .int b), (3, .int c), (4, .int e), (5, .int (nI n)), (6, .int (nI (p_g1 n b c e).toNat))] [] (z_s nl) I J 0 0 := by
      intro h1 y1 y2
      refine v_iload E dX4_plan_106 rfl ?_
      refine v_iconst (v := nI 3) E dX4_plan_108 (by decide) ?_
      refine v_icmp_ltN (tgt := 120) E dX4_plan_109 (by decide) (by omega) (by omega) (fun k => ?_) (fun k => ?_)
      · exact q4 h1 y1 y2 (by rw [decide_eq_true k]; rfl)
      · refine v_aload_n E dX4_plan_112 rfl ?_
        refine v_iload_n E dX4_plan_113 rfl ?_
        refine v_callV1 E dX4_plan_114 k_X4_95 Y_X4_isMask (mm_isMask (d + 1) nl I J hm.1 w1 c) rfl rfl rfl (Nat.le_of_ble_eq_true rfl) ?_
        refine v_if_eqB (tgt := 139) E dX4_plan_117 (by decide)  (fun k2 => ?_) (fun k2 => ?_)
        · exact no (by rw [g2d, k2, decide_eq_false (by omega : ¬ n < 3)]; simp)
        · exact q4 h1 y1 y2 (by rw [k2, Bool.or_true])
    have q2 : p_g1 n b c e = true → (decide (n < 1) || z_msk a (s_np s)) = true → z_V K 92 [(0, .ref 17), (1, .int a), (2, .int b), (3, .int c), (4, .int e), (5, .int (nI n)), (6, .int (nI (p_g1 n b c e).toNat))] [] (z_s nl) I J 0 0 := by
      intro h1 y1
      refine v_iload E dX4_plan_92 rfl ?_
      refine v_iconst (v := nI 2) E dX4_plan_94 (by decide) ?_
      refine v_icmp_ltN (tgt := 106) E dX4_plan_95 (by decide) (by omega) (by omega) (fun k => ?_) (fun k => ?_)
      · exact q3 h1 y1 (by rw [decide_eq_true k]; rfl)
      · refine v_aload_n E dX4_plan_98 rfl ?_
        refine v_iload_n E dX4_plan_99 rfl ?_
        refine v_callV1 E dX4_plan_100 k_X4_95 Y_X4_isMask (mm_isMask (d + 1) nl I J hm.1 w1 b) rfl rfl rfl (Nat.le_of_ble_eq_true rfl) ?_
        refine v_if_eqB (tgt := 139) E dX4_plan_103 (by decide)  (fun k2 => ?_) (fun k2 => ?_)
        · exact no (by rw [g2d, k2, decide_eq_false (by omega : ¬ n < 2)]; simp)
        · exact q3 h1 y1 (by rw [k2, Bool.or_true])
    have q0 : ∀ g : Bool, g = p_g1 n b c e → z_V K 71 [(0, .ref 17), (1, .int a), (2, .int b), (3, .int c), (4, .int e), (5, .int (nI n))] [.int (nI g.toNat)] (z_s nl) I J 0 0 := by
      rintro g rfl
      refine v_istore E dX4_plan_71 (by decide) ?_
      refine v_iload E dX4_plan_73 rfl ?_
      refine v_if_eqB (tgt := 139) E dX4_plan_75 (by decide)  (fun k => ?_) (fun k => ?_)
      · exact no (by rw [k]; rfl)
      · refine v_iload E dX4_plan_78 rfl ?_
        refine v_iconst (v := nI 1) E dX4_plan_80 (by decide) ?_
        refine v_icmp_ltN (tgt := 92) E dX4_plan_81 (by decide) (by omega) (by omega) (fun k1 => ?_) (fun k1 => ?_)
        · exact q2 k (by rw [decide_eq_true k1]; rfl)
        · refine v_aload_n E dX4_plan_84 rfl ?_
          refine v_iload_n E dX4_plan_85 rfl ?_
          refine v_callV1 E dX4_plan_86 k_X4_95 Y_X4_isMask (mm_isMask (d + 1) nl I J hm.1 w1 a) rfl rfl rfl (Nat.le_of_ble_eq_true rfl) ?_
          refine v_if_eqB (tgt := 139) E dX4_plan_89 (by decide)  (fun k2 => ?_) (fun k2 => ?_)
          · exact no (by rw [g2d, k2, decide_eq_false (by omega : ¬ n < 1)]; simp)
          · exact q2 k (by rw [k2, Bool.or_true])
    -- the first half
    have g1d : p_g1 n b c e = ((decide (0 < n) || decide (b = 0)) && ((decide (1 < n) || decide (c = 0)) && (decide (2 < n) || decide (e = 0)))) := rfl
    have f70 : p_g1 n b c e = false → z_V K 70 [(0, .ref 17), (1, .int a), (2, .int b), (3, .int c), (4, .int e), (5, .int (nI n))] [] (z_s nl) I J 0 0 := by
      intro hg
      refine v_iconst (v := nI 0) E dX4_plan_70 (by decide) ?_
      exact q0 false hg.symm
    have f66 : p_g1 n b c e = true → z_V K 66 [(0, .ref 17), (1, .int a), (2, .int b), (3, .int c), (4, .int e), (5, .int (nI n))] [] (z_s nl) I J 0 0 := by
      intro hg
      refine v_iconst (v := nI 1) E dX4_plan_66 (by decide) ?_
      refine v_goto (tgt := 71) E dX4_plan_67 (by decide) ?_
      exact q0 true hg.symm
    have f55 : (decide (0 < n) || decide (b = 0)) = true → (decide (1 < n) || decide (c = 0)) = true → z_V K 55 [(0, .ref 17), (1, .int a), (2, .int b), (3, .int c), (4, .int e), (5, .int (nI n))] [] (z_s nl) I J 0 0 := by
      intro y1 y2
      refine v_iload E dX4_plan_55 rfl ?_
      refine v_iconst (v := nI 2) E dX4_plan_57 (by decide) ?_
      refine v_icmp_gtN (tgt := 66) E dX4_plan_58 (by decide) (by omega) (by omega) (fun k => ?_) (fun k => ?_)
      · exact f66 (by rw [g1d, y1, y2, decide_eq_true k]; rfl)
      · refine v_iload E dX4_plan_61 rfl ?_
        refine v_if_ne (tgt := 70) E dX4_plan_63 (by decide)  (fun k1 => ?_) (fun k1 => ?_)
        · exact f70 (by rw [g1d, decide_eq_false (by omega : ¬ 2 < n), decide_eq_false k1]; simp)
        · exact f66 (by rw [g1d, y1, y2, decide_eq_true k1, Bool.or_true]; rfl)
    have f45 : (decide (0 < n) || decide (b = 0)) = true → z_V K 45 [(0, .ref 17), (1, .int a), (2, .int b), (3, .int c), (4, .int e), (5, .int (nI n))] [] (z_s nl) I J 0 0 := by
      intro y1
      refine v_iload E dX4_plan_45 rfl ?_
      refine v_iconst (v := nI 1) E dX4_plan_47 (by decide) ?_
      refine v_icmp_gtN (tgt := 55) E dX4_plan_48 (by decide) (by omega) (by omega) (fun k => ?_) (fun k => ?_)
      · exact f55 y1 (by rw [decide_eq_true k]; rfl)
      · refine v_iload_n E dX4_plan_51 rfl ?_
        refine v_if_ne (tgt := 70) E dX4_plan_52 (by decide)  (fun k1 => ?_) (fun k1 => ?_)
        · exact f70 (by rw [g1d, decide_eq_false (by omega : ¬ 1 < n), decide_eq_false k1]; simp)
        · exact f55 y1 (by rw [decide_eq_true k1, Bool.or_true])
    refine v_istore E dX4_plan_34 (by decide) ?_
    refine v_iload E dX4_plan_36 rfl ?_
    refine v_if_gtN (tgt := 45) E dX4_plan_38 (by decide) (by omega) (fun k => ?_) (fun k => ?_)
    · exact f45 (by rw [decide_eq_true k]; rfl)
    · refine v_iload_n E dX4_plan_41 rfl ?_
      refine v_if_ne (tgt := 70) E dX4_plan_42 (by decide)  (fun k1 => ?_) (fun k1 => ?_)
      · exact f70 (by rw [g1d, decide_eq_false (by omega : ¬ 0 < n), decide_eq_false k1]; simp)
      · exact f45 (by rw [decide_eq_true k1, Bool.or_true])
  refine v_iload_n E dX4_plan_0 rfl ?_
  refine v_if_ne (tgt := 8) E dX4_plan_1 (by decide)  (fun k1 => ?_) (fun k1 => ?_)
  · refine v_iload_n E dX4_plan_8 rfl ?_
    refine v_if_ne (tgt := 16) E dX4_plan_9 (by decide)  (fun k2 => ?_) (fun k2 => ?_)
    · refine v_iload_n E dX4_plan_16 rfl ?_
      refine v_if_ne (tgt := 24) E dX4_plan_17 (by decide)  (fun k3 => ?_) (fun k3 => ?_)
      · refine v_iload E dX4_plan_24 rfl ?_
        refine v_if_ne (tgt := 33) E dX4_plan_26 (by decide)  (fun k4 => ?_) (fun k4 => ?_)
        · refine v_iconst (v := nI 4) E dX4_plan_33 (by decide) ?_
          exact main 4 (by unfold p_n; rw [if_neg k1, if_neg k2, if_neg k3, if_neg k4])
        · refine v_iconst (v := nI 3) E dX4_plan_29 (by decide) ?_
          refine v_goto (tgt := 34) E dX4_plan_30 (by decide) ?_
          exact main 3 (by unfold p_n; rw [if_neg k1, if_neg k2, if_neg k3, if_pos k4])
      · refine v_iconst (v := nI 2) E dX4_plan_20 (by decide) ?_
        refine v_goto (tgt := 34) E dX4_plan_21 (by decide) ?_
        exact main 2 (by unfold p_n; rw [if_neg k1, if_neg k2, if_pos k3])
    · refine v_iconst (v := nI 1) E dX4_plan_12 (by decide) ?_
      refine v_goto (tgt := 34) E dX4_plan_13 (by decide) ?_
      exact main 1 (by unfold p_n; rw [if_neg k1, if_pos k2])
  · refine v_iconst (v := nI 0) E dX4_plan_4 (by decide) ?_
    refine v_goto (tgt := 34) E dX4_plan_5 (by decide) ?_
    exact main 0 (by unfold p_n; rw [if_pos k1])
