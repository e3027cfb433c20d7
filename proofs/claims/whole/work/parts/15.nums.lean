/-! NUMBERS AS NATURALS, and rows that speak of them -/
theorem q_tb (n : Nat) : (nI n).toBitVec = BitVec.ofNat 32 n := rfl
theorem q_inj {a b : Int32} (h : a.toBitVec = b.toBitVec) : a = b := Int32.toBitVec_inj.mp h
theorem q_and (a b : Nat) : nI a &&& nI b = nI (a &&& b) := q_inj (by
  rw [Int32.toBitVec_and, q_tb, q_tb, q_tb]
  apply BitVec.eq_of_getLsbD_eq
  intro i hi
  simp [BitVec.getLsbD_ofNat, hi])
theorem q_or (a b : Nat) : nI a ||| nI b = nI (a ||| b) := q_inj (by
  rw [Int32.toBitVec_or, q_tb, q_tb, q_tb]
  apply BitVec.eq_of_getLsbD_eq
  intro i hi
  simp [BitVec.getLsbD_ofNat, hi])
theorem q_xor (a b : Nat) : nI a ^^^ nI b = nI (a ^^^ b) := q_inj (by
  rw [Int32.toBitVec_xor, q_tb, q_tb, q_tb]
  apply BitVec.eq_of_getLsbD_eq
  intro i hi
  simp [BitVec.getLsbD_ofNat, hi])
theorem q_sl : ∀ n, n < 32 → ((nI n &&& 31).toBitVec.smod 32).toNat = n := by decide +kernel
theorem q_su : ∀ n, n < 32 → (((nI n).toUInt32 &&& Int32.toUInt32 31).toBitVec % 32).toNat = n := by decide +kernel
theorem q_mod (n : Nat) : nI n = nI (n % 2 ^ 32) := q_inj (by
  rw [q_tb, q_tb]
  apply BitVec.eq_of_toNat_eq
  rw [BitVec.toNat_ofNat, BitVec.toNat_ofNat, Nat.mod_mod])
theorem q_of (x : Int32) : ∃ n, n < 2 ^ 32 ∧ x = nI n := ⟨x.toBitVec.toNat, x.toBitVec.isLt, q_inj (by rw [q_tb]; simp)⟩
theorem q_tn {n : Nat} (h : n < 2 ^ 32) : (nI n).toBitVec.toNat = n := pk_tn h
theorem q_shl (a : Nat) {k : Nat} (hk : k < 32) : nI a <<< (nI k &&& 31) = nI (a * 2 ^ k) := by
  apply q_inj
  apply BitVec.eq_of_toNat_eq
  rw [pk_shl (nI a) (nI k &&& 31) k (q_sl k hk), q_tb, q_tb, BitVec.toNat_ofNat, BitVec.toNat_ofNat, Nat.mod_mul_mod]
theorem q_shl1 {k : Nat} (hk : k < 32) : nI 1 <<< (nI k &&& 31) = nI (2 ^ k) := by rw [q_shl 1 hk, Nat.one_mul]
theorem q_shr {a k : Nat} (ha : a < 2 ^ 31) (hk : k < 32) : nI a >>> (nI k &&& 31) = nI (a / 2 ^ k) := pk_shrN ha _ k (q_sl k hk)
theorem q_ushr {a k : Nat} (ha : a < 2 ^ 32) (hk : k < 32) : ((nI a).toUInt32 >>> ((nI k).toUInt32 &&& Int32.toUInt32 31)).toInt32 = nI (a / 2 ^ k) := pk_ushrN ha _ k (q_su k hk)
theorem q_tbn (a k : Nat) : a / 2 ^ k % 2 = (a.testBit k).toNat := by
  rw [Nat.toNat_testBit]
theorem q_a1 (a : Nat) : a &&& 1 = a % 2 := Nat.and_two_pow_sub_one_eq_mod a 1
theorem q_bit {a k : Nat} (ha : a < 2 ^ 31) (hk : k < 32) : nI a >>> (nI k &&& 31) &&& nI 1 = nI (a.testBit k).toNat := by
  rw [q_shr ha hk, q_and, q_a1, q_tbn]
/-- the bits of a that b has not -/
def q_df (a b : Nat) : Nat := a ^^^ (a &&& b)
theorem q_df_bit (a b k : Nat) : (q_df a b).testBit k = (a.testBit k && !b.testBit k) := by
  unfold q_df
  rw [Nat.testBit_xor, Nat.testBit_and]
  cases a.testBit k <;> cases b.testBit k <;> rfl
theorem q_dif (a b : Nat) : nI a &&& (nI b ^^^ -1) = nI (q_df a b) := q_inj (by
  rw [Int32.toBitVec_and, Int32.toBitVec_xor, q_tb, q_tb, q_tb]
  apply BitVec.eq_of_getLsbD_eq
  intro i hi
  have h1 : (Int32.toBitVec (-1)).getLsbD i = true := by
    have : ∀ i, i < 32 → (Int32.toBitVec (-1)).getLsbD i = true := by decide +kernel
    exact this i hi
  simp only [BitVec.getLsbD_and, BitVec.getLsbD_xor, BitVec.getLsbD_ofNat, hi, decide_true, Bool.true_and, h1, q_df_bit]
  cases a.testBit i <;> cases b.testBit i <;> rfl)
theorem q_lt2 {a k : Nat} (h : ∀ i, k ≤ i → a.testBit i = false) : a < 2 ^ k := Nat.lt_pow_two_of_testBit a h
theorem q_hi {a k i : Nat} (h : a < 2 ^ k) (hi : k ≤ i) : a.testBit i = false := Nat.testBit_lt_two_pow (Nat.lt_of_lt_of_le h (Nat.pow_le_pow_right (by decide) hi))
theorem q_xor_lt {a b k : Nat} (ha : a < 2 ^ k) (hb : b < 2 ^ k) : a ^^^ b < 2 ^ k := Nat.xor_lt_two_pow ha hb
theorem q_and_lt {a b k : Nat} (ha : a < 2 ^ k) : a &&& b < 2 ^ k := q_lt2 fun i hi => by rw [Nat.testBit_and, q_hi ha hi]; rfl
theorem q_or_lt {a b k : Nat} (ha : a < 2 ^ k) (hb : b < 2 ^ k) : a ||| b < 2 ^ k := Nat.or_lt_two_pow ha hb
theorem q_df_lt {a b k : Nat} (ha : a < 2 ^ k) : q_df a b < 2 ^ k := q_lt2 fun i hi => by rw [q_df_bit, q_hi ha hi]; rfl
theorem q_eqN {a b : Nat} (ha : a < 2 ^ 32) (hb : b < 2 ^ 32) (h : nI a = nI b) : a = b := by
  have : (nI a).toBitVec.toNat = (nI b).toBitVec.toNat := by rw [h]
  rwa [q_tn ha, q_tn hb] at this
/-! longs -/
theorem q_ltb (n : Nat) : (lN n).toBitVec = BitVec.ofNat 64 n := rfl
theorem q_linj {a b : Int64} (h : a.toBitVec = b.toBitVec) : a = b := Int64.toBitVec_inj.mp h
theorem q_land (a b : Nat) : lN a &&& lN b = lN (a &&& b) := q_linj (by
  rw [Int64.toBitVec_and, q_ltb, q_ltb, q_ltb]
  apply BitVec.eq_of_getLsbD_eq
  intro i hi
  simp [BitVec.getLsbD_ofNat, hi])
theorem q_lor (a b : Nat) : lN a ||| lN b = lN (a ||| b) := q_linj (by
  rw [Int64.toBitVec_or, q_ltb, q_ltb, q_ltb]
  apply BitVec.eq_of_getLsbD_eq
  intro i hi
  simp [BitVec.getLsbD_ofNat, hi])
theorem q_lxor (a b : Nat) : lN a ^^^ lN b = lN (a ^^^ b) := q_linj (by
  rw [Int64.toBitVec_xor, q_ltb, q_ltb, q_ltb]
  apply BitVec.eq_of_getLsbD_eq
  intro i hi
  simp [BitVec.getLsbD_ofNat, hi])
theorem q_lc : ∀ k, k < 64 → ((nI k).toInt64 &&& 63) = lN k := by decide +kernel
theorem q_lsm : ∀ k, k < 64 → (BitVec.ofNat 64 k).smod 64 = BitVec.ofNat 64 k := by decide +kernel
theorem q_lshl (n : Nat) {k : Nat} (hk : k < 64) : lN n <<< ((nI k).toInt64 &&& 63) = lN (n * 2 ^ k) := by
  rw [q_lc k hk]
  apply q_linj
  rw [Int64.toBitVec_shiftLeft, q_ltb, q_ltb, q_ltb, q_lsm k hk]
  apply BitVec.eq_of_toNat_eq
  rw [BitVec.shiftLeft_eq', BitVec.toNat_shiftLeft, BitVec.toNat_ofNat, BitVec.toNat_ofNat, BitVec.toNat_ofNat, Nat.shiftLeft_eq, Nat.mod_eq_of_lt (show k < 2 ^ 64 by omega), Nat.mod_mul_mod]
theorem q_lshl1 {k : Nat} (hk : k < 64) : lN 1 <<< ((nI k).toInt64 &&& 63) = lN (2 ^ k) := by rw [q_lshl 1 hk, Nat.one_mul]
theorem q_lshr {a k : Nat} (ha : a < 2 ^ 62) (hk : k < 64) : lN a >>> ((nI k).toInt64 &&& 63) = lN (a / 2 ^ k) := by
  rw [q_lc k hk]
  have hd : a / 2 ^ k ≤ a := Nat.div_le_self _ _
  have hD : ((lN k).toBitVec.smod 64).toNat = k := by
    rw [q_ltb, q_lsm k hk, BitVec.toNat_ofNat, Nat.mod_eq_of_lt (by omega)]
  apply Int64.toInt_inj.mp
  have e : (lN a >>> lN k).toInt = (lN a).toInt >>> k := by
    have := hD
    conv => rhs; rw [← this]
    exact BitVec.toInt_sshiftRight ..
  have h1 : (lN a).toInt = (a : Int) := lg_ofNat_toInt (by omega)
  have h2 : (lN (a / 2 ^ k)).toInt = ((a / 2 ^ k : Nat) : Int) := lg_ofNat_toInt (by omega)
  rw [e, Int.shiftRight_eq_div_pow, h1, h2]
  rfl
theorem q_lbit {a k : Nat} (ha : a < 2 ^ 62) (hk : k < 64) : lN a >>> ((nI k).toInt64 &&& 63) &&& lN 1 = lN (a.testBit k).toNat := by
  rw [q_lshr ha hk, q_land, q_a1, q_tbn]
theorem q_ltn {n : Nat} (h : n < 2 ^ 64) : (lN n).toBitVec.toNat = n := by rw [q_ltb, BitVec.toNat_ofNat, Nat.mod_eq_of_lt h]
theorem q_leqN {a b : Nat} (ha : a < 2 ^ 64) (hb : b < 2 ^ 64) (h : lN a = lN b) : a = b := by
  have : (lN a).toBitVec.toNat = (lN b).toBitVec.toNat := by rw [h]
  rwa [q_ltn ha, q_ltn hb] at this

section ZNUM
variable {y : MethodName} {cc : ByteArray} {nL d : Nat} {ret : Option FieldType} {K : zK} {pc : Nat} {ls : zL} {st : List Value} {h : zH} {I : zI} {J : zJ} {kc ks : Nat}
/-- the top by other words -/
theorem v_top {x x2 : Int32} (e : x = x2) (k : z_V K pc ls (.int x2 :: st) h I J kc ks) : z_V K pc ls (.int x :: st) h I J kc ks := e ▸ k
theorem v_topl {x x2 : Int64} (e : x = x2) (k : z_V K pc ls (.long x2 :: st) h I J kc ks) : z_V K pc ls (.long x :: st) h I J kc ks := e ▸ k
/-- the store by other words -/
theorem v_st {h2 : zH} {I2 : zI} {J2 : zJ} (e1 : h = h2) (e2 : I = I2) (e3 : J = J2) (k : z_V K pc ls st h2 I2 J2 kc ks) : z_V K pc ls st h I J kc ks := by
  subst e1 e2 e3
  exact k
/-- the whole row by other words, all of them by what they are -/
theorem v_eq {ls2 : zL} {st2 : List Value} (e1 : ls = ls2) (e2 : st = st2) (k : z_V K pc ls2 st2 h I J kc ks) : z_V K pc ls st h I J kc ks := by
  subst e1 e2
  exact k
theorem v_inc (E : z_E y cc nL ret d K) {i x : Nat} (hd : decode cc pc = .ok (.iinc i 1, 3)) (hg : z_at ls i = some (.int (nI x))) (hn : i < nL) (k : z_V K (pc + 3) (z_set i (.int (nI (x + 1))) ls) st h I J kc ks) : z_V K pc ls st h I J kc ks :=
  v_iinc E hd hg (nI_1 x) hn k
theorem v_iaddN (E : z_E y cc nL ret d K) {a b : Nat} (hd : decode cc pc = .ok (.iadd, 1))  (k : z_V K (pc + 1) ls (.int (nI (a + b)) :: st) h I J kc ks) : z_V K pc ls (.int (nI b) :: .int (nI a) :: st) h I J kc ks := v_iadd E hd (v_top (nI_add a b) k)
theorem v_isubN (E : z_E y cc nL ret d K) {a b : Nat} (hd : decode cc pc = .ok (.isub, 1)) (hab : b ≤ a) (k : z_V K (pc + 1) ls (.int (nI (a - b)) :: st) h I J kc ks) : z_V K pc ls (.int (nI b) :: .int (nI a) :: st) h I J kc ks := v_isub E hd (v_top (pk_sub hab) k)
theorem v_imulN (E : z_E y cc nL ret d K) {a b : Nat} (hd : decode cc pc = .ok (.imul, 1))  (k : z_V K (pc + 1) ls (.int (nI (a * b)) :: st) h I J kc ks) : z_V K pc ls (.int (nI b) :: .int (nI a) :: st) h I J kc ks := v_imul E hd (v_top (pk_mul a b) k)
theorem v_iandN (E : z_E y cc nL ret d K) {a b : Nat} (hd : decode cc pc = .ok (.iand, 1))  (k : z_V K (pc + 1) ls (.int (nI (a &&& b)) :: st) h I J kc ks) : z_V K pc ls (.int (nI b) :: .int (nI a) :: st) h I J kc ks := v_iand E hd (v_top (q_and a b) k)
theorem v_iorN (E : z_E y cc nL ret d K) {a b : Nat} (hd : decode cc pc = .ok (.ior, 1))  (k : z_V K (pc + 1) ls (.int (nI (a ||| b)) :: st) h I J kc ks) : z_V K pc ls (.int (nI b) :: .int (nI a) :: st) h I J kc ks := v_ior E hd (v_top (q_or a b) k)
theorem v_ixorN (E : z_E y cc nL ret d K) {a b : Nat} (hd : decode cc pc = .ok (.ixor, 1))  (k : z_V K (pc + 1) ls (.int (nI (a ^^^ b)) :: st) h I J kc ks) : z_V K pc ls (.int (nI b) :: .int (nI a) :: st) h I J kc ks := v_ixor E hd (v_top (q_xor a b) k)
theorem v_ishlN (E : z_E y cc nL ret d K) {a b : Nat} (hd : decode cc pc = .ok (.ishl, 1)) (hb : b < 32) (k : z_V K (pc + 1) ls (.int (nI (a * 2 ^ b)) :: st) h I J kc ks) : z_V K pc ls (.int (nI b) :: .int (nI a) :: st) h I J kc ks := v_ishl E hd (v_top (q_shl a hb) k)
theorem v_ishrN (E : z_E y cc nL ret d K) {a b : Nat} (hd : decode cc pc = .ok (.ishr, 1)) (ha : a < 2 ^ 31) (hb : b < 32) (k : z_V K (pc + 1) ls (.int (nI (a / 2 ^ b)) :: st) h I J kc ks) : z_V K pc ls (.int (nI b) :: .int (nI a) :: st) h I J kc ks := v_ishr E hd (v_top (q_shr ha hb) k)
theorem v_iushrN (E : z_E y cc nL ret d K) {a b : Nat} (hd : decode cc pc = .ok (.iushr, 1)) (ha : a < 2 ^ 32) (hb : b < 32) (k : z_V K (pc + 1) ls (.int (nI (a / 2 ^ b)) :: st) h I J kc ks) : z_V K pc ls (.int (nI b) :: .int (nI a) :: st) h I J kc ks := v_iushr E hd (v_top (q_ushr ha hb) k)
theorem v_landN (E : z_E y cc nL ret d K) {a b : Nat} (hd : decode cc pc = .ok (.land, 1))  (k : z_V K (pc + 1) ls (.long (lN (a &&& b)) :: st) h I J kc ks) : z_V K pc ls (.long (lN b) :: .long (lN a) :: st) h I J kc ks := v_land E hd (v_topl (q_land a b) k)
theorem v_lorN (E : z_E y cc nL ret d K) {a b : Nat} (hd : decode cc pc = .ok (.lor, 1))  (k : z_V K (pc + 1) ls (.long (lN (a ||| b)) :: st) h I J kc ks) : z_V K pc ls (.long (lN b) :: .long (lN a) :: st) h I J kc ks := v_lor E hd (v_topl (q_lor a b) k)
theorem v_lxorN (E : z_E y cc nL ret d K) {a b : Nat} (hd : decode cc pc = .ok (.lxor, 1))  (k : z_V K (pc + 1) ls (.long (lN (a ^^^ b)) :: st) h I J kc ks) : z_V K pc ls (.long (lN b) :: .long (lN a) :: st) h I J kc ks := v_lxor E hd (v_topl (q_lxor a b) k)
theorem v_lshlN (E : z_E y cc nL ret d K) {a b : Nat} (hd : decode cc pc = .ok (.lshl, 1)) (hb : b < 64) (k : z_V K (pc + 1) ls (.long (lN (a * 2 ^ b)) :: st) h I J kc ks) : z_V K pc ls (.int (nI b) :: .long (lN a) :: st) h I J kc ks := v_lshl E hd (v_topl (q_lshl a hb) k)
theorem v_lshrN (E : z_E y cc nL ret d K) {a b : Nat} (hd : decode cc pc = .ok (.lshr, 1)) (ha : a < 2 ^ 62) (hb : b < 64) (k : z_V K (pc + 1) ls (.long (lN (a / 2 ^ b)) :: st) h I J kc ks) : z_V K pc ls (.int (nI b) :: .long (lN a) :: st) h I J kc ks := v_lshr E hd (v_topl (q_lshr ha hb) k)
theorem v_icmp_eqN (E : z_E y cc nL ret d K) {a b : Nat} {off : Int} {tgt : Nat} (hd : decode cc pc = .ok (.if_icmp .eq off, 3)) (ht : (pc : Int) + off = (tgt : Int)) (ha : a < 2 ^ 31) (hb : b < 2 ^ 31) (kt : a = b → z_V K tgt ls st h I J kc ks) (kf : a ≠ b → z_V K (pc + 3) ls st h I J kc ks) : z_V K pc ls (.int (nI b) :: .int (nI a) :: st) h I J kc ks := v_icmp_eq E hd ht (fun q => kt ((nI_eq ha hb).mp q)) (fun q => kf (fun e => q ((nI_eq ha hb).mpr e)))
theorem v_icmp_neN (E : z_E y cc nL ret d K) {a b : Nat} {off : Int} {tgt : Nat} (hd : decode cc pc = .ok (.if_icmp .ne off, 3)) (ht : (pc : Int) + off = (tgt : Int)) (ha : a < 2 ^ 31) (hb : b < 2 ^ 31) (kt : a ≠ b → z_V K tgt ls st h I J kc ks) (kf : a = b → z_V K (pc + 3) ls st h I J kc ks) : z_V K pc ls (.int (nI b) :: .int (nI a) :: st) h I J kc ks := v_icmp_ne E hd ht (fun q => kt (fun e => q ((nI_eq ha hb).mpr e))) (fun q => kf ((nI_eq ha hb).mp q))
theorem v_icmp_ltN (E : z_E y cc nL ret d K) {a b : Nat} {off : Int} {tgt : Nat} (hd : decode cc pc = .ok (.if_icmp .lt off, 3)) (ht : (pc : Int) + off = (tgt : Int)) (ha : a < 2 ^ 31) (hb : b < 2 ^ 31) (kt : a < b → z_V K tgt ls st h I J kc ks) (kf : b ≤ a → z_V K (pc + 3) ls st h I J kc ks) : z_V K pc ls (.int (nI b) :: .int (nI a) :: st) h I J kc ks := v_icmp_lt E hd ht (fun q => kt ((nI_ltI ha hb).mp q)) (fun q => kf (Nat.not_lt.mp fun e => q ((nI_ltI ha hb).mpr e)))
theorem v_icmp_geN (E : z_E y cc nL ret d K) {a b : Nat} {off : Int} {tgt : Nat} (hd : decode cc pc = .ok (.if_icmp .ge off, 3)) (ht : (pc : Int) + off = (tgt : Int)) (ha : a < 2 ^ 31) (hb : b < 2 ^ 31) (kt : b ≤ a → z_V K tgt ls st h I J kc ks) (kf : a < b → z_V K (pc + 3) ls st h I J kc ks) : z_V K pc ls (.int (nI b) :: .int (nI a) :: st) h I J kc ks := v_icmp_ge E hd ht (fun q => kt ((nI_leI hb ha).mp q)) (fun q => kf (Nat.not_le.mp fun e => q ((nI_leI hb ha).mpr e)))
theorem v_icmp_gtN (E : z_E y cc nL ret d K) {a b : Nat} {off : Int} {tgt : Nat} (hd : decode cc pc = .ok (.if_icmp .gt off, 3)) (ht : (pc : Int) + off = (tgt : Int)) (ha : a < 2 ^ 31) (hb : b < 2 ^ 31) (kt : b < a → z_V K tgt ls st h I J kc ks) (kf : a ≤ b → z_V K (pc + 3) ls st h I J kc ks) : z_V K pc ls (.int (nI b) :: .int (nI a) :: st) h I J kc ks := v_icmp_gt E hd ht (fun q => kt ((nI_ltI hb ha).mp q)) (fun q => kf (Nat.not_lt.mp fun e => q ((nI_ltI hb ha).mpr e)))
theorem v_icmp_leN (E : z_E y cc nL ret d K) {a b : Nat} {off : Int} {tgt : Nat} (hd : decode cc pc = .ok (.if_icmp .le off, 3)) (ht : (pc : Int) + off = (tgt : Int)) (ha : a < 2 ^ 31) (hb : b < 2 ^ 31) (kt : a ≤ b → z_V K tgt ls st h I J kc ks) (kf : b < a → z_V K (pc + 3) ls st h I J kc ks) : z_V K pc ls (.int (nI b) :: .int (nI a) :: st) h I J kc ks := v_icmp_le E hd ht (fun q => kt ((nI_leI ha hb).mp q)) (fun q => kf (Nat.not_le.mp fun e => q ((nI_leI ha hb).mpr e)))
theorem v_if_eqN (E : z_E y cc nL ret d K) {a : Nat} {off : Int} {tgt : Nat} (hd : decode cc pc = .ok (.ifCond .eq off, 3)) (ht : (pc : Int) + off = (tgt : Int)) (ha : a < 2 ^ 31) (kt : a = 0 → z_V K tgt ls st h I J kc ks) (kf : 0 < a → z_V K (pc + 3) ls st h I J kc ks) : z_V K pc ls (.int (nI a) :: st) h I J kc ks := v_if_eq E hd ht (fun q => kt (q_eqN (by omega) (by decide) q)) (fun q => kf (Nat.pos_of_ne_zero fun e => q (by rw [e]; rfl)))
theorem v_if_neN (E : z_E y cc nL ret d K) {a : Nat} {off : Int} {tgt : Nat} (hd : decode cc pc = .ok (.ifCond .ne off, 3)) (ht : (pc : Int) + off = (tgt : Int)) (ha : a < 2 ^ 31) (kt : 0 < a → z_V K tgt ls st h I J kc ks) (kf : a = 0 → z_V K (pc + 3) ls st h I J kc ks) : z_V K pc ls (.int (nI a) :: st) h I J kc ks := v_if_ne E hd ht (fun q => kt (Nat.pos_of_ne_zero fun e => q (by rw [e]; rfl))) (fun q => kf (q_eqN (by omega) (by decide) q))
theorem v_if_gtN (E : z_E y cc nL ret d K) {a : Nat} {off : Int} {tgt : Nat} (hd : decode cc pc = .ok (.ifCond .gt off, 3)) (ht : (pc : Int) + off = (tgt : Int)) (ha : a < 2 ^ 31) (kt : 0 < a → z_V K tgt ls st h I J kc ks) (kf : a = 0 → z_V K (pc + 3) ls st h I J kc ks) : z_V K pc ls (.int (nI a) :: st) h I J kc ks := v_if_gt E hd ht (fun q => kt ((nI_ltI (a := 0) (by decide) ha).mp q)) (fun q => kf (Nat.eq_zero_of_not_pos fun e => q ((nI_ltI (a := 0) (by decide) ha).mpr e)))
theorem v_if_leN (E : z_E y cc nL ret d K) {a : Nat} {off : Int} {tgt : Nat} (hd : decode cc pc = .ok (.ifCond .le off, 3)) (ht : (pc : Int) + off = (tgt : Int)) (ha : a < 2 ^ 31) (kt : a = 0 → z_V K tgt ls st h I J kc ks) (kf : 0 < a → z_V K (pc + 3) ls st h I J kc ks) : z_V K pc ls (.int (nI a) :: st) h I J kc ks := v_if_le E hd ht (fun q => kt (Nat.le_zero.mp ((nI_leI (b := 0) ha (by decide)).mp q))) (fun q => kf (Nat.pos_of_ne_zero fun e => q (by rw [e]; decide)))
/-- a bit as a condition -/
theorem v_if_eqB (E : z_E y cc nL ret d K) {b : Bool} {off : Int} {tgt : Nat} (hd : decode cc pc = .ok (.ifCond .eq off, 3)) (ht : (pc : Int) + off = (tgt : Int)) (kt : b = false → z_V K tgt ls st h I J kc ks) (kf : b = true → z_V K (pc + 3) ls st h I J kc ks) : z_V K pc ls (.int (nI b.toNat) :: st) h I J kc ks := by
  refine v_if_eqN E hd ht (by cases b <;> decide) (fun q => kt ?_) (fun q => kf ?_) <;> cases b <;> simp_all
theorem v_if_neB (E : z_E y cc nL ret d K) {b : Bool} {off : Int} {tgt : Nat} (hd : decode cc pc = .ok (.ifCond .ne off, 3)) (ht : (pc : Int) + off = (tgt : Int)) (kt : b = true → z_V K tgt ls st h I J kc ks) (kf : b = false → z_V K (pc + 3) ls st h I J kc ks) : z_V K pc ls (.int (nI b.toNat) :: st) h I J kc ks := by
  refine v_if_neN E hd ht (by cases b <;> decide) (fun q => kt ?_) (fun q => kf ?_) <;> cases b <;> simp_all
/-- a counted loop, from its end back -/
theorem z_for {P : Nat → Prop} (N : Nat) (he : P N) (hs : ∀ k, k < N → P (k + 1) → P k) : ∀ k, k ≤ N → P k := by
  have key : ∀ n k, k + n = N → P k := by
    intro n
    induction n with
    | zero =>
      intro k hk
      have : k = N := by omega
      subst this
      exact he
    | succ n ih =>
      intro k hk
      exact hs k (by omega) (ih (k + 1) (by omega))
  exact fun k hk => key (N - k) k (by omega)
end ZNUM
