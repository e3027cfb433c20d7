/-! THE JDK's SMALL FUNCTIONS over masks below 1024 -/
section ZE2
variable {y : MethodName} {cc : ByteArray} {nL d : Nat} {ret : Option FieldType} {K : zK} {pc : Nat} {ls : zL} {st : List Value} {h : zH} {I : zI} {J : zJ} {kc ks : Nat}
/-- reads with the value by other words -/
theorem v_ialoadE (E : z_E y cc nL ret d K) {a n j : Nat} {i x : Int32} (hd : decode cc pc = .ok (.iaload, 1)) (hT : h.2.1 a = (10, n)) (hi : i = nI j) (hj : j < n) (hn : n < 2 ^ 31) (e : I a j = x) (k : z_V K (pc + 1) ls (.int x :: st) h I J kc ks) : z_V K pc ls (.int i :: .ref a :: st) h I J kc ks := v_iaload E hd hT hi hj hn (v_top e k)
theorem v_baloadE (E : z_E y cc nL ret d K) {a n j : Nat} {i x : Int32} (hd : decode cc pc = .ok (.baload, 1)) (hT : h.2.1 a = (12, n)) (hi : i = nI j) (hj : j < n) (hn : n < 2 ^ 31) (e : I a j = x) (k : z_V K (pc + 1) ls (.int x :: st) h I J kc ks) : z_V K pc ls (.int i :: .ref a :: st) h I J kc ks := v_baload E hd hT hi hj hn (v_top e k)
theorem v_laloadE (E : z_E y cc nL ret d K) {a n j : Nat} {i : Int32} {x : Int64} (hd : decode cc pc = .ok (.laload, 1)) (hT : h.2.1 a = (11, n)) (hi : i = nI j) (hj : j < n) (hn : n < 2 ^ 31) (e : J a j = x) (k : z_V K (pc + 1) ls (.long x :: st) h I J kc ks) : z_V K pc ls (.int i :: .ref a :: st) h I J kc ks := v_laload E hd hT hi hj hn (v_topl e k)
theorem v_getIE (E : z_E y cc nL ret d K) {idx ci k a : Nat} {x : Int32} (hf : z_Fl y.cls idx ci k) (hd : decode cc pc = .ok (.getfield idx, 3)) (hT : (h.2.1 a).1 = ci) (hk : z_kd (z_ty ci k) = 0) (e : I a k = x) (kk : z_V K (pc + 3) ls (.int x :: st) h I J kc ks) : z_V K pc ls (.ref a :: st) h I J kc ks := v_getI E hf hd hT hk (v_top e kk)
theorem v_getJE (E : z_E y cc nL ret d K) {idx ci k a : Nat} {x : Int64} (hf : z_Fl y.cls idx ci k) (hd : decode cc pc = .ok (.getfield idx, 3)) (hT : (h.2.1 a).1 = ci) (hk : z_kd (z_ty ci k) = 1) (e : J a k = x) (kk : z_V K (pc + 3) ls (.long x :: st) h I J kc ks) : z_V K pc ls (.ref a :: st) h I J kc ks := v_getJ E hf hd hT hk (v_topl e kk)
end ZE2
/-- how many bits a mask below 1024 has -/
def q_pop (m : Nat) : Nat := ((List.range 10).filter (fun i => m.testBit i)).length
/-- its lowest bit, its highest bit -/
def q_low (m : Nat) : Nat := m ^^^ (m &&& (m - 1))
def q_ctz (m : Nat) : Nat := Nat.log2 (q_low m)
def q_top (m : Nat) : Nat := 2 ^ Nat.log2 m
def q_bc (x : Int32) : Int32 :=
  let u (a : Int32) (k : Int32) : Int32 := (a.toUInt32 >>> (k.toUInt32 &&& Int32.toUInt32 31)).toInt32
  let a := x - (u x (nI 1) &&& 1431655765)
  let b := (a &&& 858993459) + (u a (nI 2) &&& 858993459)
  let c := (b + u b (nI 4)) &&& 252645135
  let e := c + u c (nI 8)
  let f := e + u e (nI 16)
  f &&& nI 63
theorem q_bc_ok : ∀ m, m < 1024 → q_bc (nI m) = nI (q_pop m) := by decide +kernel
theorem q_low_ok : ∀ m, m < 1024 → nI m &&& -(nI m) = nI (q_low m) := by decide +kernel
def q_l3 (n i : Nat) : Nat := n - i / 2
def q_l2 (n i : Nat) : Nat := if i < 4 then q_l3 n i else q_l3 (n - 2) (i / 4)
def q_l1 (n i : Nat) : Nat := if i < 16 then q_l2 n i else q_l2 (n - 4) (i / 16)
def q_l0 (n i : Nat) : Nat := if i < 256 then q_l1 n i else q_l1 (n - 8) (i / 256)
theorem q_nlz_ok : ∀ m, m < 1024 → 0 < m → q_l0 31 m = 31 - Nat.log2 m := by decide +kernel
theorem q_top_ok : ∀ m, m < 1024 → 0 < m → nI m &&& (Int32.toUInt32 (-2147483648) >>> ((nI (31 - Nat.log2 m)).toUInt32 &&& Int32.toUInt32 31)).toInt32 = nI (q_top m) := by decide +kernel
def q_t3 (n i : Nat) : Nat := n + i / 2
def q_t2 (n i : Nat) : Nat := if i ≤ 4 then q_t3 n i else q_t3 (n + 2) (i / 4)
def q_t1 (n i : Nat) : Nat := if i ≤ 16 then q_t2 n i else q_t2 (n + 4) (i / 16)
def q_t0 (n i : Nat) : Nat := if i ≤ 256 then q_t1 n i else q_t1 (n + 8) (i / 256)
theorem q_ctz_ok : ∀ m, m < 1024 → 0 < m → (if m &&& 1 = 1 then 0 else q_t0 1 (q_low m - 1)) = q_ctz m := by decide +kernel
theorem q_ctz_in : ∀ m, m < 1024 → 0 < m → (nI m ^^^ -1) &&& (nI m - nI 1) = nI (q_low m - 1) ∧ q_low m < 1024 ∧ ((m &&& 1 = 1) ↔ q_low m - 1 = 0) := by decide +kernel
theorem q_dec8 (n : Nat) (h : 8 ≤ n) : nI n + Int32.ofInt (-8) = nI (n - 8) := by
  rw [show Int32.ofInt (-8) = -(nI 8) by decide, ← Int32.sub_eq_add_neg, pk_sub h]
theorem q_dec4 (n : Nat) (h : 4 ≤ n) : nI n + Int32.ofInt (-4) = nI (n - 4) := by
  rw [show Int32.ofInt (-4) = -(nI 4) by decide, ← Int32.sub_eq_add_neg, pk_sub h]
theorem q_dec2 (n : Nat) (h : 2 ≤ n) : nI n + Int32.ofInt (-2) = nI (n - 2) := by
  rw [show Int32.ofInt (-2) = -(nI 2) by decide, ← Int32.sub_eq_add_neg, pk_sub h]
theorem m_bitCount (d : Nat) (h : zH) (I : zI) (J : zJ) (m : Nat) (hm : m < 1024) : z_C yJ6_bitCount_0f7a4 cJ6_bitCount_0f7a4 1 (some .int) d [.int (nI m)] h I J 0 0 (z_q (some (.int (nI (q_pop m)))) h I J) := by
  refine z_C.of (by decide) (Nat.le_of_ble_eq_true rfl) fun K E X => ?_
  refine v_iload_n E dJ6_bitCount_0f7a4_0 rfl ?_
  refine v_iload_n E dJ6_bitCount_0f7a4_1 rfl ?_
  refine v_iconst (v := nI 1) E dJ6_bitCount_0f7a4_2 (by decide) ?_
  refine v_iushr E dJ6_bitCount_0f7a4_3 ?_
  refine v_ldc_w E dJ6_bitCount_0f7a4_4 n_J6_265 ?_
  refine v_iand E dJ6_bitCount_0f7a4_7 ?_
  refine v_isub E dJ6_bitCount_0f7a4_8 ?_
  refine v_istore_n E dJ6_bitCount_0f7a4_9 (by decide) ?_
  refine v_iload_n E dJ6_bitCount_0f7a4_10 rfl ?_
  refine v_ldc_w E dJ6_bitCount_0f7a4_11 n_J6_266 ?_
  refine v_iand E dJ6_bitCount_0f7a4_14 ?_
  refine v_iload_n E dJ6_bitCount_0f7a4_15 rfl ?_
  refine v_iconst (v := nI 2) E dJ6_bitCount_0f7a4_16 (by decide) ?_
  refine v_iushr E dJ6_bitCount_0f7a4_17 ?_
  refine v_ldc_w E dJ6_bitCount_0f7a4_18 n_J6_266 ?_
  refine v_iand E dJ6_bitCount_0f7a4_21 ?_
  refine v_iadd E dJ6_bitCount_0f7a4_22 ?_
  refine v_istore_n E dJ6_bitCount_0f7a4_23 (by decide) ?_
  refine v_iload_n E dJ6_bitCount_0f7a4_24 rfl ?_
  refine v_iload_n E dJ6_bitCount_0f7a4_25 rfl ?_
  refine v_iconst (v := nI 4) E dJ6_bitCount_0f7a4_26 (by decide) ?_
  refine v_iushr E dJ6_bitCount_0f7a4_27 ?_
  refine v_iadd E dJ6_bitCount_0f7a4_28 ?_
  refine v_ldc_w E dJ6_bitCount_0f7a4_29 n_J6_267 ?_
  refine v_iand E dJ6_bitCount_0f7a4_32 ?_
  refine v_istore_n E dJ6_bitCount_0f7a4_33 (by decide) ?_
  refine v_iload_n E dJ6_bitCount_0f7a4_34 rfl ?_
  refine v_iload_n E dJ6_bitCount_0f7a4_35 rfl ?_
  refine v_bipush (v := nI 8) E dJ6_bitCount_0f7a4_36 (by decide) ?_
  refine v_iushr E dJ6_bitCount_0f7a4_38 ?_
  refine v_iadd E dJ6_bitCount_0f7a4_39 ?_
  refine v_istore_n E dJ6_bitCount_0f7a4_40 (by decide) ?_
  refine v_iload_n E dJ6_bitCount_0f7a4_41 rfl ?_
  refine v_iload_n E dJ6_bitCount_0f7a4_42 rfl ?_
  refine v_bipush (v := nI 16) E dJ6_bitCount_0f7a4_43 (by decide) ?_
  refine v_iushr E dJ6_bitCount_0f7a4_45 ?_
  refine v_iadd E dJ6_bitCount_0f7a4_46 ?_
  refine v_istore_n E dJ6_bitCount_0f7a4_47 (by decide) ?_
  refine v_iload_n E dJ6_bitCount_0f7a4_48 rfl ?_
  refine v_bipush (v := nI 63) E dJ6_bitCount_0f7a4_49 (by decide) ?_
  refine v_iand E dJ6_bitCount_0f7a4_51 ?_
  exact v_iret E X dJ6_bitCount_0f7a4_52 (z_qi (q_bc_ok m hm))
theorem m_lowestOneBit (d : Nat) (h : zH) (I : zI) (J : zJ) (m : Nat) (hm : m < 1024) : z_C yJ6_lowestOneBit_0f7a4 cJ6_lowestOneBit_0f7a4 1 (some .int) d [.int (nI m)] h I J 0 0 (z_q (some (.int (nI (q_low m)))) h I J) := by
  refine z_C.of (by decide) (Nat.le_of_ble_eq_true rfl) fun K E X => ?_
  refine v_iload_n E dJ6_lowestOneBit_0f7a4_0 rfl ?_
  refine v_iload_n E dJ6_lowestOneBit_0f7a4_1 rfl ?_
  refine v_ineg E dJ6_lowestOneBit_0f7a4_2 ?_
  refine v_iand E dJ6_lowestOneBit_0f7a4_3 ?_
  exact v_iret E X dJ6_lowestOneBit_0f7a4_4 (z_qi (q_low_ok m hm))
theorem m_nlz (d : Nat) (h : zH) (I : zI) (J : zJ) (m : Nat) (hm : m < 1024) (h0 : 0 < m) : z_C yJ6_numberOfLeadingZeros_0f7a4 cJ6_numberOfLeadingZeros_0f7a4 2 (some .int) d [.int (nI m)] h I J 0 0 (z_q (some (.int (nI (31 - Nat.log2 m)))) h I J) := by
  rw [← q_nlz_ok m hm h0]
  refine z_C.of (by decide) (Nat.le_of_ble_eq_true rfl) fun K E X => ?_
  have t3 : ∀ n i, i / 2 ≤ n → i < 65536 → q_l3 n i = q_l0 31 m → z_V K 73 [(0, .int (nI i)), (1, .int (nI n))] [] h I J 0 0 := by
    intro n i h1 h2 h3
    refine v_iload_n E dJ6_numberOfLeadingZeros_0f7a4_73 rfl ?_
    refine v_iload_n E dJ6_numberOfLeadingZeros_0f7a4_74 rfl ?_
    refine v_iconst (v := nI 1) E dJ6_numberOfLeadingZeros_0f7a4_75 (by decide) ?_
    refine v_iushrN E dJ6_numberOfLeadingZeros_0f7a4_76 (by omega) (by omega) ?_
    refine v_isubN E dJ6_numberOfLeadingZeros_0f7a4_77 (by omega) ?_
    exact v_iret E X dJ6_numberOfLeadingZeros_0f7a4_78 (z_qi (by rw [← h3]; rfl))
  have t2 : ∀ n i, 10 ≤ n → i < 16 → q_l2 n i = q_l0 31 m → z_V K 61 [(0, .int (nI i)), (1, .int (nI n))] [] h I J 0 0 := by
    intro n i h1 h2 h3
    refine v_iload_n E dJ6_numberOfLeadingZeros_0f7a4_61 rfl ?_
    refine v_iconst (v := nI 4) E dJ6_numberOfLeadingZeros_0f7a4_62 (by decide) ?_
    refine v_icmp_ltN (tgt := 73) E dJ6_numberOfLeadingZeros_0f7a4_63 (by decide) (by omega) (by omega) (fun c => ?_) (fun c => ?_)
    · exact t3 n i (by omega) (by omega) (by rw [← h3]; unfold q_l2; rw [if_pos c])
    · refine v_iinc (v := nI (n - 2)) E dJ6_numberOfLeadingZeros_0f7a4_66 rfl (q_dec2 n (by omega)) (by decide) ?_
      refine v_iload_n E dJ6_numberOfLeadingZeros_0f7a4_69 rfl ?_
      refine v_iconst (v := nI 2) E dJ6_numberOfLeadingZeros_0f7a4_70 (by decide) ?_
      refine v_iushrN E dJ6_numberOfLeadingZeros_0f7a4_71 (by omega) (by omega) ?_
      refine v_istore_n E dJ6_numberOfLeadingZeros_0f7a4_72 (by decide) ?_
      exact t3 (n - 2) (i / 4) (by omega) (by omega) (by rw [← h3]; unfold q_l2; rw [if_neg (by omega)])
  have t1 : ∀ n i, 20 ≤ n → i < 256 → q_l1 n i = q_l0 31 m → z_V K 48 [(0, .int (nI i)), (1, .int (nI n))] [] h I J 0 0 := by
    intro n i h1 h2 h3
    refine v_iload_n E dJ6_numberOfLeadingZeros_0f7a4_48 rfl ?_
    refine v_bipush (v := nI 16) E dJ6_numberOfLeadingZeros_0f7a4_49 (by decide) ?_
    refine v_icmp_ltN (tgt := 61) E dJ6_numberOfLeadingZeros_0f7a4_51 (by decide) (by omega) (by omega) (fun c => ?_) (fun c => ?_)
    · exact t2 n i (by omega) (by omega) (by rw [← h3]; unfold q_l1; rw [if_pos c])
    · refine v_iinc (v := nI (n - 4)) E dJ6_numberOfLeadingZeros_0f7a4_54 rfl (q_dec4 n (by omega)) (by decide) ?_
      refine v_iload_n E dJ6_numberOfLeadingZeros_0f7a4_57 rfl ?_
      refine v_iconst (v := nI 4) E dJ6_numberOfLeadingZeros_0f7a4_58 (by decide) ?_
      refine v_iushrN E dJ6_numberOfLeadingZeros_0f7a4_59 (by omega) (by omega) ?_
      refine v_istore_n E dJ6_numberOfLeadingZeros_0f7a4_60 (by decide) ?_
      exact t2 (n - 4) (i / 16) (by omega) (by omega) (by rw [← h3]; unfold q_l1; rw [if_neg (by omega)])
  refine v_iload_n E dJ6_numberOfLeadingZeros_0f7a4_0 rfl ?_
  refine v_if_gtN (tgt := 15) E dJ6_numberOfLeadingZeros_0f7a4_1 (by decide) (by omega) (fun c => ?_) (fun c => ?_)
  · refine v_bipush (v := nI 31) E dJ6_numberOfLeadingZeros_0f7a4_15 (by decide) ?_
    refine v_istore_n E dJ6_numberOfLeadingZeros_0f7a4_17 (by decide) ?_
    refine v_iload_n E dJ6_numberOfLeadingZeros_0f7a4_18 rfl ?_
    refine v_ldc_w E dJ6_numberOfLeadingZeros_0f7a4_19 n_J6_264 ?_
    refine v_top (show (65536 : Int32) = nI 65536 by decide) ?_
    refine v_icmp_ltN (tgt := 33) E dJ6_numberOfLeadingZeros_0f7a4_22 (by decide) (by omega) (by omega) (fun c2 => ?_) (fun c2 => ?_)
    · refine v_iload_n E dJ6_numberOfLeadingZeros_0f7a4_33 rfl ?_
      refine v_sipush (v := nI 256) E dJ6_numberOfLeadingZeros_0f7a4_34 (by decide) ?_
      refine v_icmp_ltN (tgt := 48) E dJ6_numberOfLeadingZeros_0f7a4_37 (by decide) (by omega) (by omega) (fun c3 => ?_) (fun c3 => ?_)
      · exact t1 31 m (by omega) c3 (by unfold q_l0; rw [if_pos c3])
      · refine v_iinc (v := nI (31 - 8)) E dJ6_numberOfLeadingZeros_0f7a4_40 rfl (q_dec8 31 (by omega)) (by decide) ?_
        refine v_iload_n E dJ6_numberOfLeadingZeros_0f7a4_43 rfl ?_
        refine v_bipush (v := nI 8) E dJ6_numberOfLeadingZeros_0f7a4_44 (by decide) ?_
        refine v_iushrN E dJ6_numberOfLeadingZeros_0f7a4_46 (by omega) (by omega) ?_
        refine v_istore_n E dJ6_numberOfLeadingZeros_0f7a4_47 (by decide) ?_
        exact t1 (31 - 8) (m / 256) (by omega) (by omega) (by unfold q_l0; rw [if_neg (by omega)])
    · exact absurd c2 (by omega)
  · exact absurd c (by omega)
theorem m_highestOneBit (d : Nat) (h : zH) (I : zI) (J : zJ) (m : Nat) (hm : m < 1024) (h0 : 0 < m) : z_C yJ6_highestOneBit_0f7a4 cJ6_highestOneBit_0f7a4 1 (some .int) (d + 1) [.int (nI m)] h I J 0 0 (z_q (some (.int (nI (q_top m)))) h I J) := by
  refine z_C.of (by decide) (Nat.le_of_ble_eq_true rfl) fun K E X => ?_
  refine v_iload_n E dJ6_highestOneBit_0f7a4_0 rfl ?_
  refine v_ldc E dJ6_highestOneBit_0f7a4_1 n_J6_127 ?_
  refine v_iload_n E dJ6_highestOneBit_0f7a4_3 rfl ?_
  refine v_callS1 E dJ6_highestOneBit_0f7a4_4 k_J6_51 Y_J6_numberOfLeadingZeros_0f7a4 (m_nlz d h I J m hm h0) rfl rfl (Nat.le_of_ble_eq_true rfl) ?_
  refine v_iushr E dJ6_highestOneBit_0f7a4_7 ?_
  refine v_iand E dJ6_highestOneBit_0f7a4_8 ?_
  exact v_iret E X dJ6_highestOneBit_0f7a4_9 (z_qi (q_top_ok m hm h0))
theorem m_ctz (d : Nat) (h : zH) (I : zI) (J : zJ) (m : Nat) (hm : m < 1024) (h0 : 0 < m) : z_C yJ6_numberOfTrailingZeros_0f7a4 cJ6_numberOfTrailingZeros_0f7a4 2 (some .int) d [.int (nI m)] h I J 0 0 (z_q (some (.int (nI (q_ctz m)))) h I J) := by
  rw [← q_ctz_ok m hm h0]
  obtain ⟨e1, e2, e3⟩ := q_ctz_in m hm h0
  generalize hr : (if m &&& 1 = 1 then 0 else q_t0 1 (q_low m - 1)) = r
  refine z_C.of (by decide) (Nat.le_of_ble_eq_true rfl) fun K E X => ?_
  have t3 : ∀ n i, n < 1000 → i < 65536 → q_t3 n i = r → z_V K 74 [(0, .int (nI i)), (1, .int (nI n))] [] h I J 0 0 := by
    intro n i h1 h2 h3
    refine v_iload_n E dJ6_numberOfTrailingZeros_0f7a4_74 rfl ?_
    refine v_iload_n E dJ6_numberOfTrailingZeros_0f7a4_75 rfl ?_
    refine v_iconst (v := nI 1) E dJ6_numberOfTrailingZeros_0f7a4_76 (by decide) ?_
    refine v_iushrN E dJ6_numberOfTrailingZeros_0f7a4_77 (by omega) (by omega) ?_
    refine v_iaddN E dJ6_numberOfTrailingZeros_0f7a4_78 ?_
    exact v_iret E X dJ6_numberOfTrailingZeros_0f7a4_79 (z_qi (by rw [← h3]; rfl))
  have t2 : ∀ n i, n < 900 → i < 65536 → q_t2 n i = r → z_V K 62 [(0, .int (nI i)), (1, .int (nI n))] [] h I J 0 0 := by
    intro n i h1 h2 h3
    refine v_iload_n E dJ6_numberOfTrailingZeros_0f7a4_62 rfl ?_
    refine v_iconst (v := nI 4) E dJ6_numberOfTrailingZeros_0f7a4_63 (by decide) ?_
    refine v_icmp_leN (tgt := 74) E dJ6_numberOfTrailingZeros_0f7a4_64 (by decide) (by omega) (by omega) (fun c => ?_) (fun c => ?_)
    · exact t3 n i (by omega) (by omega) (by rw [← h3]; unfold q_t2; rw [if_pos c])
    · refine v_iinc (v := nI (n + 2)) E dJ6_numberOfTrailingZeros_0f7a4_67 rfl (nI_add n 2) (by decide) ?_
      refine v_iload_n E dJ6_numberOfTrailingZeros_0f7a4_70 rfl ?_
      refine v_iconst (v := nI 2) E dJ6_numberOfTrailingZeros_0f7a4_71 (by decide) ?_
      refine v_iushrN E dJ6_numberOfTrailingZeros_0f7a4_72 (by omega) (by omega) ?_
      refine v_istore_n E dJ6_numberOfTrailingZeros_0f7a4_73 (by decide) ?_
      exact t3 (n + 2) (i / 4) (by omega) (by omega) (by rw [← h3]; unfold q_t2; rw [if_neg (by omega)])
  have t1 : ∀ n i, n < 800 → i < 65536 → q_t1 n i = r → z_V K 49 [(0, .int (nI i)), (1, .int (nI n))] [] h I J 0 0 := by
    intro n i h1 h2 h3
    refine v_iload_n E dJ6_numberOfTrailingZeros_0f7a4_49 rfl ?_
    refine v_bipush (v := nI 16) E dJ6_numberOfTrailingZeros_0f7a4_50 (by decide) ?_
    refine v_icmp_leN (tgt := 62) E dJ6_numberOfTrailingZeros_0f7a4_52 (by decide) (by omega) (by omega) (fun c => ?_) (fun c => ?_)
    · exact t2 n i (by omega) (by omega) (by rw [← h3]; unfold q_t1; rw [if_pos c])
    · refine v_iinc (v := nI (n + 4)) E dJ6_numberOfTrailingZeros_0f7a4_55 rfl (nI_add n 4) (by decide) ?_
      refine v_iload_n E dJ6_numberOfTrailingZeros_0f7a4_58 rfl ?_
      refine v_iconst (v := nI 4) E dJ6_numberOfTrailingZeros_0f7a4_59 (by decide) ?_
      refine v_iushrN E dJ6_numberOfTrailingZeros_0f7a4_60 (by omega) (by omega) ?_
      refine v_istore_n E dJ6_numberOfTrailingZeros_0f7a4_61 (by decide) ?_
      exact t2 (n + 4) (i / 16) (by omega) (by omega) (by rw [← h3]; unfold q_t1; rw [if_neg (by omega)])
  refine v_iload_n E dJ6_numberOfTrailingZeros_0f7a4_0 rfl ?_
  refine v_iconst (v := -1) E dJ6_numberOfTrailingZeros_0f7a4_1 (by decide) ?_
  refine v_ixor E dJ6_numberOfTrailingZeros_0f7a4_2 ?_
  refine v_iload_n E dJ6_numberOfTrailingZeros_0f7a4_3 rfl ?_
  refine v_iconst (v := nI 1) E dJ6_numberOfTrailingZeros_0f7a4_4 (by decide) ?_
  refine v_isub E dJ6_numberOfTrailingZeros_0f7a4_5 ?_
  refine v_iand E dJ6_numberOfTrailingZeros_0f7a4_6 ?_
  refine v_top e1 ?_
  refine v_istore_n E dJ6_numberOfTrailingZeros_0f7a4_7 (by decide) ?_
  refine v_iload_n E dJ6_numberOfTrailingZeros_0f7a4_8 rfl ?_
  refine v_if_gtN (tgt := 17) E dJ6_numberOfTrailingZeros_0f7a4_9 (by decide) (by omega) (fun c => ?_) (fun c => ?_)
  · refine v_iconst (v := nI 1) E dJ6_numberOfTrailingZeros_0f7a4_17 (by decide) ?_
    refine v_istore_n E dJ6_numberOfTrailingZeros_0f7a4_18 (by decide) ?_
    refine v_iload_n E dJ6_numberOfTrailingZeros_0f7a4_19 rfl ?_
    refine v_ldc_w E dJ6_numberOfTrailingZeros_0f7a4_20 n_J6_264 ?_
    refine v_top (show (65536 : Int32) = nI 65536 by decide) ?_
    have hr2 : q_t0 1 (q_low m - 1) = r := by rw [← hr, if_neg (fun z => by have := e3.mp z; omega)]
    refine v_icmp_leN (tgt := 34) E dJ6_numberOfTrailingZeros_0f7a4_23 (by decide) (by omega) (by omega) (fun c2 => ?_) (fun c2 => ?_)
    · refine v_iload_n E dJ6_numberOfTrailingZeros_0f7a4_34 rfl ?_
      refine v_sipush (v := nI 256) E dJ6_numberOfTrailingZeros_0f7a4_35 (by decide) ?_
      refine v_icmp_leN (tgt := 49) E dJ6_numberOfTrailingZeros_0f7a4_38 (by decide) (by omega) (by omega) (fun c3 => ?_) (fun c3 => ?_)
      · exact t1 1 (q_low m - 1) (by omega) (by omega) (by rw [← hr2]; unfold q_t0; rw [if_pos c3])
      · refine v_iinc (v := nI (1 + 8)) E dJ6_numberOfTrailingZeros_0f7a4_41 rfl (nI_add 1 8) (by decide) ?_
        refine v_iload_n E dJ6_numberOfTrailingZeros_0f7a4_44 rfl ?_
        refine v_bipush (v := nI 8) E dJ6_numberOfTrailingZeros_0f7a4_45 (by decide) ?_
        refine v_iushrN E dJ6_numberOfTrailingZeros_0f7a4_47 (by omega) (by omega) ?_
        refine v_istore_n E dJ6_numberOfTrailingZeros_0f7a4_48 (by decide) ?_
        exact t1 (1 + 8) ((q_low m - 1) / 256) (by omega) (by omega) (by rw [← hr2]; unfold q_t0; rw [if_neg (by omega)])
    · exact absurd c2 (by omega)
  · refine v_iload_n E dJ6_numberOfTrailingZeros_0f7a4_12 rfl ?_
    refine v_bipush (v := nI 32) E dJ6_numberOfTrailingZeros_0f7a4_13 (by decide) ?_
    refine v_iandN E dJ6_numberOfTrailingZeros_0f7a4_15 ?_
    exact v_iret E X dJ6_numberOfTrailingZeros_0f7a4_16 (z_qi (by rw [← hr, if_pos (e3.mpr c), c]; rfl))
section ZMM
variable {y : MethodName} {cc : ByteArray} {nL d : Nat} {ret : Option FieldType} {K : zK} {pc : Nat} {ls : zL} {st : List Value} {h : zH} {I : zI} {J : zJ} {kc ks : Nat}
theorem v_maxN (E : z_E y cc nL ret (d + 1) K) {idx a b : Nat} (hd : decode cc pc = .ok (.invokestatic idx, 3)) (hlk : Cond.methodLink y.cls idx yJ9_max_7cf53 ∈ z_tbl) (ha : a < 2 ^ 31) (hb9 : b < 2 ^ 31) (hw : (st.map fun v => v.category).sum ≤ 8) (k : z_V K (pc + 3) ls (.int (nI (max a b)) :: st) h I J kc ks) : z_V K pc ls (.int (nI b) :: .int (nI a) :: st) h I J kc ks := by
  obtain ⟨⟨p, l, e, R, s, m, args, below, meth, c⟩, Qf, G, mc, ms⟩ := K
  obtain ⟨hx, hb, hml, hr, hlocks, hin, hown, hts, hK, hSt, hbase, ht0, hRc, hRs, hfr, hlo⟩ := E
  intro H locs la hP hS hl hkc hks
  have e9 : (if nI a < nI b then nI b else nI a) = nI (max a b) := by
    by_cases hab : a < b
    · rw [if_pos ((nI_ltI ha hb9).mpr hab), Nat.max_eq_right (by omega)]
    · rw [if_neg (fun z => hab ((nI_ltI ha hb9).mp z)), Nat.max_eq_left (by omega)]
  refine va_mmax hx hb hl.1.symm hown (hts _ hlk) (hts _ (z_mem (by decide +kernel) rfl)) (hts _ (z_mem (by decide +kernel) rfl)) (hts _ (z_mem (by decide +kernel) rfl)) (by omega) (by rw [z_catsum]; omega) (by rw [hRc]; omega) (by rw [hRs]; omega) hd ?_
  rw [e9]
  exact k H locs la hP hS hl hkc hks
theorem v_minN (E : z_E y cc nL ret (d + 1) K) {idx a b : Nat} (hd : decode cc pc = .ok (.invokestatic idx, 3)) (hlk : Cond.methodLink y.cls idx yJ9_min_7cf53 ∈ z_tbl) (ha : a < 2 ^ 31) (hb9 : b < 2 ^ 31) (hw : (st.map fun v => v.category).sum ≤ 8) (k : z_V K (pc + 3) ls (.int (nI (min a b)) :: st) h I J kc ks) : z_V K pc ls (.int (nI b) :: .int (nI a) :: st) h I J kc ks := by
  obtain ⟨⟨p, l, e, R, s, m, args, below, meth, c⟩, Qf, G, mc, ms⟩ := K
  obtain ⟨hx, hb, hml, hr, hlocks, hin, hown, hts, hK, hSt, hbase, ht0, hRc, hRs, hfr, hlo⟩ := E
  intro H locs la hP hS hl hkc hks
  have e9 : (if nI b < nI a then nI b else nI a) = nI (min a b) := by
    by_cases hab : b < a
    · rw [if_pos ((nI_ltI hb9 ha).mpr hab), Nat.min_eq_right (by omega)]
    · rw [if_neg (fun z => hab ((nI_ltI hb9 ha).mp z)), Nat.min_eq_left (by omega)]
  refine va_mmin hx hb hl.1.symm hown (hts _ hlk) (hts _ (z_mem (by decide +kernel) rfl)) (hts _ (z_mem (by decide +kernel) rfl)) (hts _ (z_mem (by decide +kernel) rfl)) (by omega) (by rw [z_catsum]; omega) (by rw [hRc]; omega) (by rw [hRs]; omega) hd ?_
  rw [e9]
  exact k H locs la hP hS hl hkc hks
end ZMM
theorem m_isIn (d : Nat) (h : zH) (I : zI) (J : zJ) (p m : Nat) (hp : p < 32) (hm : m < 2 ^ 31) : z_C yX3_isIn cX3_isIn 2 (some .boolean) d [.int (nI p), .int (nI m)] h I J 0 0 (z_q (some (.int (nI (m.testBit p).toNat))) h I J) := by
  refine z_C.of (by decide) (Nat.le_of_ble_eq_true rfl) fun K E X => ?_
  refine v_iload_n E dX3_isIn_0 rfl ?_
  refine v_iload_n E dX3_isIn_1 rfl ?_
  refine v_ishrN E dX3_isIn_2 (by omega) (by omega) ?_
  refine v_iconst (v := nI 1) E dX3_isIn_3 (by decide) ?_
  refine v_iandN E dX3_isIn_4 ?_
  refine v_top (show nI (m / 2 ^ p &&& 1) = nI (m.testBit p).toNat by rw [q_a1, q_tbn]) ?_
  refine v_if_eqB (tgt := 12) E dX3_isIn_5 (by decide)  (fun c => ?_) (fun c => ?_)
  · refine v_iconst (v := nI 0) E dX3_isIn_12 (by decide) ?_
    exact v_zret E X dX3_isIn_13 (by first | exact Or.inl rfl | exact Or.inr rfl) (z_qi (by rw [c]; rfl))
  · refine v_iconst (v := nI 1) E dX3_isIn_8 (by decide) ?_
    refine v_goto (tgt := 13) E dX3_isIn_9 (by decide) ?_
    exact v_zret E X dX3_isIn_13 (by first | exact Or.inl rfl | exact Or.inr rfl) (z_qi (by rw [c]; rfl))
theorem m_oneIf (d : Nat) (h : zH) (I : zI) (J : zJ) (b : Bool) : z_C yX3_oneIf cX3_oneIf 1 (some .int) d [.int (nI b.toNat)] h I J 0 0 (z_q (some (.int (nI b.toNat))) h I J) := by
  refine z_C.of (by decide) (Nat.le_of_ble_eq_true rfl) fun K E X => ?_
  refine v_iload_n E dX3_oneIf_0 rfl ?_
  refine v_if_eqB (tgt := 8) E dX3_oneIf_1 (by decide)  (fun c => ?_) (fun c => ?_)
  · refine v_iconst (v := nI 0) E dX3_oneIf_8 (by decide) ?_
    exact v_iret E X dX3_oneIf_9 (z_qi (by rw [c]; rfl))
  · refine v_iconst (v := nI 1) E dX3_oneIf_4 (by decide) ?_
    refine v_goto (tgt := 9) E dX3_oneIf_5 (by decide) ?_
    exact v_iret E X dX3_oneIf_9 (z_qi (by rw [c]; rfl))
