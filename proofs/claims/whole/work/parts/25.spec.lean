/-! WHAT THE CALLS ANSWER, of a state -/
theorem z_out {x : Int32} {n : Nat} (hn : n < 2 ^ 31) (h : z_isx x n = false) : x.toInt < 0 ∨ (n : Int) ≤ x.toInt := by
  rcases pk_ix x hn with h3 | h3 | ⟨j, h3, rfl⟩
  · exact Or.inl (by simpa using Int32.lt_iff_toInt_lt.mp h3)
  · have h4 := Int32.le_iff_toInt_le.mp h3
    rw [nI_toInt hn] at h4
    exact Or.inr h4
  · rw [z_isx_nI (by omega) hn, decide_eq_true h3] at h
    cases h
def r_bytes (s : zS) (x : Int32) : Int64 := if z_isx x (s_np s) then s_pv s x.toNatClampNeg else lN 0
def r_callN (s : zS) (c w : Nat) : Int32 := match w with
  | 0 => nI (s_cm s c)
  | 1 => nI (s_hear s c)
  | _ => nI (s_newc s c)
def r_call2 (s : zS) (xc xw : Int32) : Int32 := if z_isx xc (s_nc s) then (if z_isx xw 3 then r_callN s xc.toNatClampNeg xw.toNatClampNeg else -1) else -1
def r_sum (s : zS) (x : Int32) : Int64 := if z_isx x (s_nc s) then q_sum (s_pv s) (s_cm s x.toNatClampNeg) (s_np s) else lN 0
def r_heard (s : zS) (xl xc : Int32) : Int32 := if z_isx xl (s_nl s) && z_isx xc (s_nc s) then nI ((s_hb s xc.toNatClampNeg).testBit xl.toNatClampNeg).toNat else -1
def r_aboutN (s : zS) (l w : Nat) : Int32 := match w with
  | 0 => nI (s_kd s l)
  | 1 => nI (s_hm s l)
  | 2 => nI (s_rows s l).length
  | 3 => nI (l_rk (s_rows s l))
  | 4 => nI (s_np s) - nI (l_rk (s_rows s l))
  | 5 => nI (s_wt s l)
  | 6 => nI (s_sv s l).toNat
  | _ => nI (s_of s l).toNat
def r_about (s : zS) (xl xw : Int32) : Int32 := if z_isx xl (s_nl s) then (if z_isx xw 8 then r_aboutN s xl.toNatClampNeg xw.toNatClampNeg else -1) else -1
def r_rowOf (s : zS) (xl xk : Int32) : Int32 := if z_isx xl (s_nl s) then (if z_isx xk (s_rows s xl.toNatClampNeg).length then nI (l_row (s_rows s xl.toNatClampNeg) xk.toNatClampNeg) else -1) else -1
def r_solve (s : zS) (xl xp : Int32) : Int32 := if z_isx xl (s_nl s) && z_isx xp (s_np s) then nI (s_out s xl.toNatClampNeg xp.toNatClampNeg).toNat else -1
def r_why (s : zS) (xl xp : Int32) : Int64 := if s_hwo s xl xp then lN (l_b (s_rows s xl.toNatClampNeg) xp.toNatClampNeg) else -1
/-- the bytes of the rows of a set -/
def q_gets (pv : Nat → Int64) (rs : List Nat) (np b : Nat) : Nat → Int64
  | 0 => lN 0
  | k + 1 => if b.testBit k then q_gets pv rs np b k ^^^ q_sum pv (l_row rs k) np else q_gets pv rs np b k
def r_gets (s : zS) (xl xp : Int32) : Int64 := if s_hwo s xl xp then q_gets (s_pv s) (s_rows s xl.toNatClampNeg) (s_np s) (l_b (s_rows s xl.toNatClampNeg) xp.toNatClampNeg) (s_rows s xl.toNatClampNeg).length else lN 0
/-- the least number from m on, of k, of which P holds -/
def q_find (P : Nat → Bool) : Nat → Nat → Int32
  | 0, _ => -1
  | k + 1, m => if P m then nI m else q_find P k (m + 1)
def q_even (rs : List Nat) (m : Nat) : Bool := decide (∀ k, k < rs.length → q_pop (l_row rs k &&& m) % 2 = 0)
def q_lk (rs : List Nat) (p m : Nat) : Bool := m.testBit p && q_even rs m
def r_lack (s : zS) (xl xp : Int32) : Int32 := if z_isx xl (s_nl s) && (z_isx xp (s_np s) && !s_out s xl.toNatClampNeg xp.toNatClampNeg) then q_find (q_lk (s_rows s xl.toNatClampNeg) xp.toNatClampNeg) (2 ^ s_np s - 1) 1 else -1
def s_svn (s : zS) : Nat := l_cnt (s_sv s) (s_nl s)
def r_left (s : zS) : Int32 := nI (s_nl s - s_svn s)
def r_countN (s : zS) (w : Nat) : Int32 := match w with
  | 0 => nI (s_np s)
  | 1 => nI (s_nl s)
  | 2 => nI (s_nc s)
  | 3 => nI (s_svn s)
  | _ => nI (l_add (fun l => l_rk (s_rows s l)) (s_nl s))
def r_count (s : zS) (x : Int32) : Int32 := if z_isx x 5 then r_countN s x.toNatClampNeg else -1
theorem q_find_skip (P : Nat → Bool) : ∀ (j k m : Nat), (∀ i, m ≤ i → i < m + j → P i = false) → q_find P (k + j) m = q_find P k (m + j)
  | 0, k, m, _ => rfl
  | j + 1, k, m, h => by
    show q_find P ((k + j) + 1) m = _
    simp only [q_find]
    rw [h m (Nat.le_refl _) (by omega)]
    simp only [Bool.false_eq_true, if_false]
    rw [q_find_skip P j k (m + 1) (fun i h1 h2 => h i (by omega) (by omega))]
    congr 1
    omega
theorem q_hc_bit (hb : Nat → Nat) (l i : Nat) : ∀ c, (q_hc hb l c).testBit i = (decide (i < c) && (hb i).testBit l)
  | 0 => by simp [q_hc]
  | c + 1 => by
    have ih := q_hc_bit hb l i c
    simp only [q_hc]
    by_cases hi : i = c
    · subst hi
      cases hb1 : (hb i).testBit l with
      | true => simp [Nat.testBit_or, ih, Nat.testBit_two_pow]
      | false => simp [ih]
    · have e1 : decide (i < c + 1) = decide (i < c) := by
        by_cases h2 : i < c
        · simp [h2, Nat.lt_succ_of_lt h2]
        · simp [h2, show ¬ i < c + 1 by omega]
      rw [e1]
      cases hb1 : (hb c).testBit l with
      | true =>
        simp [Nat.testBit_or, ih, Nat.testBit_two_pow, Ne.symm hi]
      | false => simp [ih]
theorem q_hc_lt (hb : Nat → Nat) (l c : Nat) : q_hc hb l c < 2 ^ c := q_lt2 fun i hi => by
  rw [q_hc_bit]
  simp [show ¬ i < c by omega]
theorem l_b_lt {rs : List Nat} (hr : ∀ r ∈ rs, r < 1024) {p : Nat} (hp : p < 10) : l_b rs p < 2 ^ rs.length := l_le_lt (l_b_inv rs hr p hp).1 (l_nw_lt rs)
