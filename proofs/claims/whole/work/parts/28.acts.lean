/-! WHAT THE ACTS DO to a state -/
def t_piece (s : zS) (v : Int64) : zS := ((s_np s + 1, va_up (s_pv s) (s_np s) v), s.2)
def a_piece (s : zS) (v : Int64) : Int32 × zS := if 0 < s_nc s then (-5, s) else if 10 ≤ s_np s then (-4, s) else (nI (s_np s), t_piece s v)
def t_listener (s : zS) (k : Nat) : zS := (s.1, (s_nl s + 1, va_up (s_kd s) (s_nl s) k, s_wt s, s_hm s, s_hs s, s_of s), s.2.2)
def a_listener (s : zS) (x : Int32) : Int32 × zS := if z_isx x 5 then (if 10 ≤ s_nl s then (-4, s) else (nI (s_nl s), t_listener s x.toNatClampNeg)) else (-2, s)
def t_wants (s : zS) (l p : Nat) : zS := (s.1, (s_nl s, s_kd s, va_up (s_wt s) l (s_wt s l ||| 2 ^ p), s_hm s, s_hs s, s_of s), s.2.2)
def a_wantsN (s : zS) (l p : Nat) : Int32 × zS := if s_kd s l = 2 then (-3, s) else if (s_wt s l).testBit p then (0, s) else if s_kd s l = 0 ∧ s_wt s l ≠ 0 then (-4, s) else (1, t_wants s l p)
def a_wants (s : zS) (xl xp : Int32) : Int32 × zS := if z_isx xl (s_nl s) && z_isx xp (s_np s) then a_wantsN s xl.toNatClampNeg xp.toNatClampNeg else (-1, s)
def t_has (s : zS) (l m : Nat) : zS := (s.1, (s_nl s, s_kd s, s_wt s, va_up (s_hm s) l (s_hm s l + 1), va_up (s_hs s) l (va_up (s_hs s l) (s_hm s l) m), s_of s), s.2.2)
def q_may (s : zS) (l m : Nat) : Bool := decide ((s_kd s l = 3 ∨ q_pop m = 1) ∧ ∀ k, k < s_hm s l → s_hs s l k ≠ m)
def a_hasN (s : zS) (l m : Nat) : Int32 × zS := if q_may s l m then (if 0 < s_nc s then (-5, s) else if 12 ≤ s_hm s l then (-4, s) else (nI (s_hm s l + 1), t_has s l m)) else (-2, s)
def a_has (s : zS) (xl xm : Int32) : Int32 × zS := if z_isx xl (s_nl s) then (if z_msk xm (s_np s) then a_hasN s xl.toNatClampNeg xm.toNatClampNeg else (-2, s)) else (-1, s)
def t_off (s : zS) (l : Nat) (b : Bool) : zS := (s.1, (s_nl s, s_kd s, s_wt s, s_hm s, s_hs s, va_up (s_of s) l b), s.2.2)
def a_offN (s : zS) (l : Nat) (x : Int32) : Int32 × zS := if s_kd s l = 4 then (if x = 0 ∨ x = 1 then (nI (s_of s l).toNat, t_off s l (decide (x = 1))) else (-2, s)) else (-3, s)
def a_off (s : zS) (xl x : Int32) : Int32 × zS := if z_isx xl (s_nl s) then a_offN s xl.toNatClampNeg x else (-1, s)
/-- the listeners below k that hear: those that are not off -/
def q_hrd (f : Nat → Bool) : Nat → Nat
  | 0 => 0
  | k + 1 => if f k then q_hrd f k else q_hrd f k ||| 2 ^ k
theorem q_hrd_bit (f : Nat → Bool) (i : Nat) : ∀ k, (q_hrd f k).testBit i = (decide (i < k) && !f i)
  | 0 => by simp [q_hrd]
  | k + 1 => by
    have ih := q_hrd_bit f i k
    simp only [q_hrd]
    by_cases hi : i = k
    · subst hi
      cases hf : f i with
      | true => simp [ih]
      | false => simp [Nat.testBit_or, ih, Nat.testBit_two_pow]
    · have e1 : decide (i < k + 1) = decide (i < k) := by
        by_cases h2 : i < k
        · simp [h2, Nat.lt_succ_of_lt h2]
        · simp [h2, show ¬ i < k + 1 by omega]
      rw [e1]
      cases hf : f k with
      | true => simp [ih]
      | false => simp [Nat.testBit_or, ih, Nat.testBit_two_pow, Ne.symm hi]
theorem q_hrd_lt (f : Nat → Bool) (k : Nat) : q_hrd f k < 2 ^ k := q_lt2 fun i hi => by
  rw [q_hrd_bit]
  simp [show ¬ i < k by omega]
def s_hrd (s : zS) : Nat := q_hrd (s_of s) (s_nl s)
def t_say (s : zS) (m : Nat) : zS := (s.1, s.2.1, (s_nc s + 1, va_up (s_cm s) (s_nc s) m, va_up (s_hb s) (s_nc s) (s_hrd s)))
def a_sayN (s : zS) (m : Nat) : Int32 × zS := if 40 ≤ s_nc s then (-4, s) else (nI (s_nc s), t_say s m)
def a_say (s : zS) (x : Int32) : Int32 × zS := if z_msk x (s_np s) then a_sayN s x.toNatClampNeg else (-2, s)
def a_again (s : zS) (x : Int32) : Int32 × zS := if z_isx x (s_nc s) then a_sayN s (s_cm s x.toNatClampNeg) else (-1, s)
theorem u_up_same {α : Type} {f : Nat → α} {k : Nat} {v : α} : va_up f k v k = v := by simp [va_up]
theorem u_up_ne {α : Type} {f : Nat → α} {k j : Nat} {v : α} (h : j ≠ k) : va_up f k v j = f j := by simp [va_up, h]
/-! a state stays well made -/
theorem w_piece {s : zS} (hw : s_wf s) (h : s_np s < 10) (h0 : s_nc s = 0) (v : Int64) : s_wf (t_piece s v) := by
  obtain ⟨w1, w2, w3, w4, w5, w6, w7, w8, w9, w10⟩ := hw
  have hp : 2 ^ s_np s < 2 ^ (s_np s + 1) := Nat.pow_lt_pow_right (by decide) (by omega)
  refine ⟨by show s_np s + 1 ≤ 10; omega, w2, w3, w4, fun l => ?_, w6, fun l k hk => ?_, fun c hc => ?_, w9, w10⟩
  · exact Nat.lt_trans (w5 l) hp
  · exact ⟨(w7 l k hk).1, Nat.lt_trans (w7 l k hk).2 hp⟩
  · have hc : c < s_nc s := hc
    omega
theorem w_listener {s : zS} (hw : s_wf s) (h : s_nl s < 10) {k : Nat} (hk : k < 5) : s_wf (t_listener s k) := by
  obtain ⟨w1, w2, w3, w4, w5, w6, w7, w8, w9, w10⟩ := hw
  refine ⟨w1, by show s_nl s + 1 ≤ 10; omega, w3, fun l => ?_, w5, w6, w7, fun c hc => ?_, fun l hl => ?_, fun l hl => ?_⟩
  · show va_up (s_kd s) (s_nl s) k l < 5
    by_cases e : l = s_nl s
    · subst e
      rw [u_up_same]
      exact hk
    · rw [u_up_ne e]
      exact w4 l
  · have := w8 c hc
    exact ⟨this.1, this.2.1, Nat.lt_of_lt_of_le this.2.2 (Nat.pow_le_pow_right (by decide) (show s_nl s ≤ s_nl s + 1 by omega))⟩
  · have hl : s_nl s + 1 ≤ l := hl
    exact w9 l (by omega)
  · by_cases e : l = s_nl s
    · subst e
      exact (w9 _ (Nat.le_refl _)).1
    · have hl : va_up (s_kd s) (s_nl s) k l = 2 := hl
      rw [u_up_ne e] at hl
      exact w10 l hl
theorem w_wants {s : zS} (hw : s_wf s) {l p : Nat} (hl : l < s_nl s) (hp : p < s_np s) (hk : s_kd s l ≠ 2) : s_wf (t_wants s l p) := by
  obtain ⟨w1, w2, w3, w4, w5, w6, w7, w8, w9, w10⟩ := hw
  refine ⟨w1, w2, w3, w4, fun j => ?_, w6, w7, w8, fun j hj => ?_, fun j hj => ?_⟩
  · show va_up (s_wt s) l _ j < _
    by_cases e : j = l
    · subst e
      rw [u_up_same]
      exact q_or_lt (w5 j) (Nat.pow_lt_pow_right (by decide) hp)
    · rw [u_up_ne e]
      exact w5 j
  · have hj : s_nl s ≤ j := hj
    show va_up (s_wt s) l _ j = 0 ∧ _
    rw [u_up_ne (by omega)]
    exact w9 j hj
  · show va_up (s_wt s) l _ j = 0
    by_cases e : j = l
    · subst e
      exact absurd hj hk
    · rw [u_up_ne e]
      exact w10 j hj
theorem w_has {s : zS} (hw : s_wf s) {l m : Nat} (hl : l < s_nl s) (h0 : 0 < m) (hm : m < 2 ^ s_np s) (h12 : s_hm s l < 12) : s_wf (t_has s l m) := by
  obtain ⟨w1, w2, w3, w4, w5, w6, w7, w8, w9, w10⟩ := hw
  refine ⟨w1, w2, w3, w4, w5, fun j => ?_, fun j k hk => ?_, w8, fun j hj => ?_, w10⟩
  · show va_up (s_hm s) l _ j ≤ 12
    by_cases e : j = l
    · subst e
      rw [u_up_same]
      omega
    · rw [u_up_ne e]
      exact w6 j
  · have hk : k < va_up (s_hm s) l (s_hm s l + 1) j := hk
    show 0 < va_up (s_hs s) l _ j k ∧ va_up (s_hs s) l _ j k < _
    by_cases e : j = l
    · subst e
      rw [u_up_same] at hk ⊢
      by_cases e2 : k = s_hm s j
      · rw [e2, u_up_same]
        exact ⟨h0, hm⟩
      · rw [u_up_ne e2]
        exact w7 j k (by omega)
    · rw [u_up_ne e] at hk ⊢
      exact w7 j k hk
  · have hj : s_nl s ≤ j := hj
    have := w9 j hj
    refine ⟨this.1, ?_, this.2.2⟩
    show va_up (s_hm s) l _ j = 0
    rw [u_up_ne (by omega)]
    exact this.2.1
theorem w_off {s : zS} (hw : s_wf s) {l : Nat} (hl : l < s_nl s) (b : Bool) : s_wf (t_off s l b) := by
  obtain ⟨w1, w2, w3, w4, w5, w6, w7, w8, w9, w10⟩ := hw
  refine ⟨w1, w2, w3, w4, w5, w6, w7, w8, fun j hj => ?_, w10⟩
  have hj : s_nl s ≤ j := hj
  have := w9 j hj
  refine ⟨this.1, this.2.1, ?_⟩
  show va_up (s_of s) l b j = false
  rw [u_up_ne (by omega)]
  exact this.2.2
theorem w_say {s : zS} (hw : s_wf s) {m : Nat} (h0 : 0 < m) (hm : m < 2 ^ s_np s) (h40 : s_nc s < 40) : s_wf (t_say s m) := by
  obtain ⟨w1, w2, w3, w4, w5, w6, w7, w8, w9, w10⟩ := hw
  refine ⟨w1, w2, by show s_nc s + 1 ≤ 40; omega, w4, w5, w6, w7, fun c hc => ?_, w9, w10⟩
  have hc : c < s_nc s + 1 := hc
  show 0 < va_up (s_cm s) _ _ c ∧ va_up (s_cm s) _ _ c < _ ∧ va_up (s_hb s) _ _ c < _
  by_cases e : c = s_nc s
  · rw [e, u_up_same, u_up_same]
    exact ⟨h0, hm, q_hrd_lt _ _⟩
  · rw [u_up_ne e, u_up_ne e]
    exact w8 c (by omega)
/-! rows behind an act -/
theorem r_call_congr {cm cm' hb hb' : Nat → Nat} {l : Nat} {base : List Nat} : ∀ {c : Nat}, (∀ j, j < c → cm' j = cm j ∧ hb' j = hb j) → r_call cm' hb' l base c = r_call cm hb l base c
  | 0, _ => rfl
  | c + 1, h => by
    simp only [r_call, (h c (by omega)).1, (h c (by omega)).2, r_call_congr (c := c) (fun j hj => h j (by omega))]
theorem s_say_at {s : zS} {m : Nat} (l : Nat) {c : Nat} (hc : c ≤ s_nc s) : s_rowsAt (t_say s m) l c = s_rowsAt s l c := by
  show r_call (va_up (s_cm s) (s_nc s) m) (va_up (s_hb s) (s_nc s) (s_hrd s)) l (s_base s l) c = r_call (s_cm s) (s_hb s) l (s_base s l) c
  exact r_call_congr (fun j hj => ⟨u_up_ne (by omega), u_up_ne (by omega)⟩)
theorem s_say_rows {s : zS} {m l : Nat} (hl : l < s_nl s) : s_rows (t_say s m) l = if s_of s l then s_rows s l else m :: s_rows s l := by
  show r_call (va_up (s_cm s) (s_nc s) m) (va_up (s_hb s) (s_nc s) (s_hrd s)) l (s_base s l) (s_nc s + 1) = _
  simp only [r_call, u_up_same]
  have e : (s_hrd s).testBit l = !s_of s l := by
    unfold s_hrd
    rw [q_hrd_bit, decide_eq_true hl]
    rfl
  have e2 := s_say_at (s := s) (m := m) l (Nat.le_refl (s_nc s))
  have e3 : r_call (va_up (s_cm s) (s_nc s) m) (va_up (s_hb s) (s_nc s) (s_hrd s)) l (s_base s l) (s_nc s) = s_rows s l := e2
  rw [e, e3]
  cases s_of s l <;> rfl
theorem q_hc_congr {hb hb' : Nat → Nat} {l : Nat} : ∀ {c : Nat}, (∀ j, j < c → hb' j = hb j) → q_hc hb' l c = q_hc hb l c
  | 0, _ => rfl
  | c + 1, h => by
    simp only [q_hc, h c (by omega), q_hc_congr (c := c) (fun j hj => h j (by omega))]
theorem s_say_hc {s : zS} {m l : Nat} (hl : l < s_nl s) : s_hc (t_say s m) l = if s_of s l then s_hc s l else s_hc s l ||| 2 ^ s_nc s := by
  show q_hc (va_up (s_hb s) (s_nc s) (s_hrd s)) l (s_nc s + 1) = _
  simp only [q_hc, u_up_same]
  have e : (s_hrd s).testBit l = !s_of s l := by
    unfold s_hrd
    rw [q_hrd_bit, decide_eq_true hl]
    rfl
  have e3 : q_hc (va_up (s_hb s) (s_nc s) (s_hrd s)) l (s_nc s) = s_hc s l := q_hc_congr (fun j hj => u_up_ne (by omega))
  rw [e, e3]
  cases s_of s l <;> rfl
theorem s_say_hear {s : zS} {m c : Nat} (hc : c < s_nc s) : s_hear (t_say s m) c = s_hear s c := by
  unfold s_hear
  have e : s_hb (t_say s m) c = s_hb s c := u_up_ne (by omega)
  rw [e]
theorem s_say_newc {s : zS} {m c : Nat} (hc : c < s_nc s) : s_newc (t_say s m) c = s_newc s c := by
  unfold s_newc
  have e : s_hb (t_say s m) c = s_hb s c := u_up_ne (by omega)
  have e2 : s_cm (t_say s m) c = s_cm s c := u_up_ne (by omega)
  have e3 : ∀ l, s_rowsAt (t_say s m) l c = s_rowsAt s l c := fun l => s_say_at l (by omega)
  rw [e, e2]
  simp only [e3]
theorem l_cnt_congr {P Q : Nat → Bool} : ∀ {k : Nat}, (∀ j, j < k → P j = Q j) → l_cnt P k = l_cnt Q k
  | 0, _ => rfl
  | k + 1, h => by
    simp only [l_cnt, h k (by omega), l_cnt_congr (k := k) (fun j hj => h j (by omega))]
theorem l_cnt_more0 {P : Nat → Bool} {n : Nat} : ∀ {k : Nat}, n ≤ k → (∀ j, n ≤ j → j < k → P j = false) → l_cnt P k = l_cnt P n
  | 0, h, _ => by
    have : n = 0 := by omega
    subst this
    rfl
  | k + 1, h, hp => by
    by_cases e : n = k + 1
    · subst e
      rfl
    · simp only [l_cnt, hp k (by omega) (by omega)]
      rw [l_cnt_more0 (k := k) (by omega) (fun j h1 h2 => hp j h1 (by omega))]
      rfl
theorem s_say_hearN {s : zS} (hw : s_wf s) {m : Nat} : s_hear (t_say s m) (s_nc s) = l_cnt (fun l => !s_of s l) (s_nl s) := by
  have w2 := hw.2.1
  unfold s_hear
  have e : s_hb (t_say s m) (s_nc s) = s_hrd s := u_up_same
  rw [e]
  unfold s_hrd
  rw [l_cnt_more0 (n := s_nl s) w2 (fun j h1 h2 => by rw [q_hrd_bit, decide_eq_false (by omega)]; rfl)]
  exact l_cnt_congr (fun j hj => by rw [q_hrd_bit, decide_eq_true hj]; rfl)
theorem s_say_newcN {s : zS} (hw : s_wf s) {m : Nat} : s_newc (t_say s m) (s_nc s) = l_cnt (fun l => !s_of s l && !l_sp (s_rows s l) m) (s_nl s) := by
  have w2 := hw.2.1
  unfold s_newc
  have e : s_hb (t_say s m) (s_nc s) = s_hrd s := u_up_same
  have e2 : s_cm (t_say s m) (s_nc s) = m := u_up_same
  rw [e, e2]
  unfold s_hrd
  rw [l_cnt_more0 (n := s_nl s) w2 (fun j h1 h2 => by rw [q_hrd_bit, decide_eq_false (by omega)]; rfl)]
  refine l_cnt_congr (fun j hj => ?_)
  rw [q_hrd_bit, decide_eq_true hj, s_say_at j (Nat.le_refl _)]
  rfl
theorem r_has_congr {hs hs' : Nat → Nat} : ∀ {k : Nat}, (∀ j, j < k → hs' j = hs j) → r_has hs' k = r_has hs k
  | 0, _ => rfl
  | k + 1, h => by
    simp only [r_has, h k (by omega), r_has_congr (k := k) (fun j hj => h j (by omega))]
theorem q_hp_congr {hs hs' : Nat → Nat} : ∀ {k : Nat}, (∀ j, j < k → hs' j = hs j) → q_hp hs' k = q_hp hs k
  | 0, _ => rfl
  | k + 1, h => by
    simp only [q_hp, h k (by omega), q_hp_congr (k := k) (fun j hj => h j (by omega))]
theorem s_has_base {s : zS} {l m : Nat} (j : Nat) : s_base (t_has s l m) j = if j = l then m :: s_base s j else s_base s j := by
  show r_has (va_up (s_hs s) l (va_up (s_hs s l) (s_hm s l) m) j) (va_up (s_hm s) l (s_hm s l + 1) j) = _
  by_cases e : j = l
  · subst e
    rw [u_up_same, u_up_same, if_pos rfl]
    simp only [r_has, u_up_same]
    rw [r_has_congr (hs := s_hs s j) (fun i hi => u_up_ne (by omega))]
    rfl
  · rw [u_up_ne e, u_up_ne e, if_neg e]
    rfl
theorem s_has_hp {s : zS} {l m : Nat} (j : Nat) : s_hp (t_has s l m) j = if j = l then (if q_pop m = 1 then s_hp s j ||| m else s_hp s j) else s_hp s j := by
  show q_hp (va_up (s_hs s) l (va_up (s_hs s l) (s_hm s l) m) j) (va_up (s_hm s) l (s_hm s l + 1) j) = _
  by_cases e : j = l
  · subst e
    rw [u_up_same, u_up_same, if_pos rfl]
    simp only [q_hp, u_up_same]
    rw [q_hp_congr (hs := s_hs s j) (fun i hi => u_up_ne (by omega))]
    rfl
  · rw [u_up_ne e, u_up_ne e, if_neg e]
    rfl
/-- the oldest rows are those that a listener has -/
theorem l_row_has (hs : Nat → Nat) : ∀ (n k : Nat), k < n → l_row (r_has hs n) k = hs k
  | n + 1, k, h => by
    simp only [r_has, l_row, r_has_len]
    by_cases e : k = n
    · subst e
      rw [if_pos rfl]
    · rw [if_neg e]
      exact l_row_has hs n k (by omega)
theorem l_row_call (cm hb : Nat → Nat) (l : Nat) (base : List Nat) {k : Nat} (hk : k < base.length) : ∀ c, l_row (r_call cm hb l base c) k = l_row base k
  | 0 => rfl
  | c + 1 => by
    simp only [r_call]
    split
    · simp only [l_row]
      rw [if_neg (by have := (r_call_len cm hb l base c).1; omega)]
      exact l_row_call cm hb l base hk c
    · exact l_row_call cm hb l base hk c
theorem s_row_has {s : zS} {l k c : Nat} (hk : k < s_hm s l) : l_row (s_rowsAt s l c) k = s_hs s l k := by
  show l_row (r_call _ _ l (s_base s l) c) k = _
  rw [l_row_call (s_cm s) (s_hb s) l (s_base s l) (by show k < (r_has _ _).length; rw [r_has_len]; exact hk) c]
  exact l_row_has _ _ _ hk
/-- what the class leaves to the model -/
def mFr (I : zI) (J : zJ) (I' : zI) (J' : zJ) : Prop := ∀ q, 17 ≤ q → q ≤ 36 → I' q = I q ∧ J' q = J q
/-- an act's end, on the class's side -/
def cQ (a : Int32 × zS) (I : zI) (J : zJ) : zQ := fun r h' I' J' => r = some (.int a.1) ∧ h' = z_s (s_nl a.2) ∧ cI a.2 I' J' ∧ mFr I J I' J'
theorem cQ.same {a : Int32 × zS} {s : zS} {v : Int32} {I : zI} {J : zJ} (e : a = (v, s)) (hc : cI s I J) : cQ a I J (some (.int v)) (z_s (s_nl s)) I J := by
  subst e
  exact ⟨rfl, rfl, hc, fun _ _ _ => ⟨rfl, rfl⟩⟩
