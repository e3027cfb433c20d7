/-! WHAT A STATE IS: pieces; listeners (kind, what each wants, how many sums it has, which, off); calls (mask, by whom heard) -/
abbrev zS : Type := (Nat × (Nat → Int64)) × (Nat × (Nat → Nat) × (Nat → Nat) × (Nat → Nat) × (Nat → Nat → Nat) × (Nat → Bool)) × (Nat × (Nat → Nat) × (Nat → Nat))
abbrev s_np (s : zS) : Nat := s.1.1
abbrev s_pv (s : zS) : Nat → Int64 := s.1.2
abbrev s_nl (s : zS) : Nat := s.2.1.1
abbrev s_kd (s : zS) : Nat → Nat := s.2.1.2.1
abbrev s_wt (s : zS) : Nat → Nat := s.2.1.2.2.1
abbrev s_hm (s : zS) : Nat → Nat := s.2.1.2.2.2.1
abbrev s_hs (s : zS) : Nat → Nat → Nat := s.2.1.2.2.2.2.1
abbrev s_of (s : zS) : Nat → Bool := s.2.1.2.2.2.2.2
abbrev s_nc (s : zS) : Nat := s.2.2.1
abbrev s_cm (s : zS) : Nat → Nat := s.2.2.2.1
abbrev s_hb (s : zS) : Nat → Nat := s.2.2.2.2
/-- the rows that a listener has, then the calls that it heard, the newest first -/
def r_has (hs : Nat → Nat) : Nat → List Nat
  | 0 => []
  | k + 1 => hs k :: r_has hs k
def r_call (cm hb : Nat → Nat) (l : Nat) (base : List Nat) : Nat → List Nat
  | 0 => base
  | c + 1 => if (hb c).testBit l then cm c :: r_call cm hb l base c else r_call cm hb l base c
def s_base (s : zS) (l : Nat) : List Nat := r_has (s_hs s l) (s_hm s l)
/-- the rows of listener l when c calls had been said -/
def s_rowsAt (s : zS) (l c : Nat) : List Nat := r_call (s_cm s) (s_hb s) l (s_base s l) c
def s_rows (s : zS) (l : Nat) : List Nat := s_rowsAt s l (s_nc s)
/-- the pieces that a listener has as single ones; the calls that it heard -/
def q_hp (hs : Nat → Nat) : Nat → Nat
  | 0 => 0
  | k + 1 => if q_pop (hs k) = 1 then q_hp hs k ||| hs k else q_hp hs k
def q_hc (hb : Nat → Nat) (l : Nat) : Nat → Nat
  | 0 => 0
  | c + 1 => if (hb c).testBit l then q_hc hb l c ||| 2 ^ c else q_hc hb l c
def s_hp (s : zS) (l : Nat) : Nat := q_hp (s_hs s l) (s_hm s l)
def s_hc (s : zS) (l : Nat) : Nat := q_hc (s_hb s) l (s_nc s)
def s_hear (s : zS) (c : Nat) : Nat := l_cnt (fun l => (s_hb s c).testBit l) 10
def s_newc (s : zS) (c : Nat) : Nat := l_cnt (fun l => (s_hb s c).testBit l && !l_sp (s_rowsAt s l c) (s_cm s c)) 10
/-- what holds in every state -/
def s_wf (s : zS) : Prop := s_np s ≤ 10 ∧ s_nl s ≤ 10 ∧ s_nc s ≤ 40 ∧ (∀ l, s_kd s l < 5) ∧ (∀ l, s_wt s l < 2 ^ s_np s) ∧ (∀ l, s_hm s l ≤ 12) ∧ (∀ l k, k < s_hm s l → 0 < s_hs s l k ∧ s_hs s l k < 2 ^ s_np s) ∧ (∀ c, c < s_nc s → 0 < s_cm s c ∧ s_cm s c < 2 ^ s_np s ∧ s_hb s c < 2 ^ s_nl s) ∧ (∀ l, s_nl s ≤ l → s_wt s l = 0 ∧ s_hm s l = 0 ∧ s_of s l = false) ∧ ∀ l, s_kd s l = 2 → s_wt s l = 0
/-- what the class's cells hold -/
def cI (s : zS) (I : zI) (J : zJ) : Prop := I 1 1 = nI (s_np s) ∧ I 1 6 = nI (s_nc s) ∧ I 3 2 = nI (s_nl s) ∧ (∀ p, p < s_np s → J 2 p = s_pv s p) ∧ (∀ c, c < s_nc s → I 4 c = nI (s_cm s c)) ∧ (∀ c, c < 40 → I 5 c = nI (if c < s_nc s then s_hear s c else 0)) ∧ (∀ c, c < 40 → I 6 c = nI (if c < s_nc s then s_newc s c else 0)) ∧ ∀ l, l < s_nl s → lsI I J (z_pl l) (s_kd s l) (s_rows s l) (s_hm s l) (s_hp s l) (s_wt s l) (s_hc s l) (s_of s l)
theorem p2_10 {n m : Nat} (h : n ≤ 10) (hm : m < 2 ^ n) : m < 1024 := Nat.lt_of_lt_of_le hm (Nat.pow_le_pow_right (by decide) h)
theorem r_has_len (hs : Nat → Nat) : ∀ k, (r_has hs k).length = k
  | 0 => rfl
  | k + 1 => by simp [r_has, r_has_len hs k]
theorem r_has_mem {hs : Nat → Nat} {r : Nat} : ∀ {k : Nat}, r ∈ r_has hs k → ∃ j, j < k ∧ r = hs j
  | k + 1, h => by
    rcases List.mem_cons.mp h with h | h
    · exact ⟨k, by omega, h⟩
    · obtain ⟨j, h1, h2⟩ := r_has_mem h
      exact ⟨j, by omega, h2⟩
theorem r_call_mem {cm hb : Nat → Nat} {l r : Nat} {base : List Nat} : ∀ {c : Nat}, r ∈ r_call cm hb l base c → r ∈ base ∨ ∃ j, j < c ∧ r = cm j
  | 0, h => Or.inl h
  | c + 1, h => by
    simp only [r_call] at h
    split at h
    · rcases List.mem_cons.mp h with h | h
      · exact Or.inr ⟨c, by omega, h⟩
      · rcases r_call_mem h with h | ⟨j, h1, h2⟩
        · exact Or.inl h
        · exact Or.inr ⟨j, by omega, h2⟩
    · rcases r_call_mem h with h | ⟨j, h1, h2⟩
      · exact Or.inl h
      · exact Or.inr ⟨j, by omega, h2⟩
theorem r_call_len (cm hb : Nat → Nat) (l : Nat) (base : List Nat) : ∀ c, base.length ≤ (r_call cm hb l base c).length ∧ (r_call cm hb l base c).length ≤ base.length + c
  | 0 => ⟨Nat.le_refl _, Nat.le_refl _⟩
  | c + 1 => by
    have ih := r_call_len cm hb l base c
    simp only [r_call]
    split
    · simp only [List.length_cons]
      omega
    · omega
theorem s_rowsAt_mem {s : zS} (hw : s_wf s) {l c r : Nat} (hc : c ≤ s_nc s) (h : r ∈ s_rowsAt s l c) : 0 < r ∧ r < 2 ^ s_np s := by
  obtain ⟨w1, w2, w3, w4, w5, w6, w7, w8, w9, w10⟩ := hw
  rcases r_call_mem h with h | ⟨j, h1, h2⟩
  · obtain ⟨j, h1, h2⟩ := r_has_mem h
    rw [h2]
    exact w7 l j h1
  · rw [h2]
    exact ⟨(w8 j (by omega)).1, (w8 j (by omega)).2.1⟩
theorem s_rows_1024 {s : zS} (hw : s_wf s) (l : Nat) {c : Nat} (hc : c ≤ s_nc s) : ∀ r ∈ s_rowsAt s l c, r < 1024 := fun _ h => p2_10 hw.1 (s_rowsAt_mem hw hc h).2
theorem s_rows_len {s : zS} (hw : s_wf s) (l c : Nat) : s_hm s l ≤ (s_rowsAt s l c).length ∧ (s_rowsAt s l c).length ≤ s_hm s l + c := by
  have h := r_call_len (s_cm s) (s_hb s) l (s_base s l) c
  have e : (s_base s l).length = s_hm s l := r_has_len _ _
  rw [e] at h
  exact h
theorem q_hp_lt {hs : Nat → Nat} {n : Nat} : ∀ {k : Nat}, (∀ j, j < k → hs j < 2 ^ n) → q_hp hs k < 2 ^ n
  | 0, _ => Nat.two_pow_pos n
  | k + 1, h => by
    simp only [q_hp]
    split
    · exact q_or_lt (q_hp_lt (fun j hj => h j (by omega))) (h k (by omega))
    · exact q_hp_lt (fun j hj => h j (by omega))
theorem s_hp_lt {s : zS} (hw : s_wf s) (l : Nat) : s_hp s l < 2 ^ s_np s := q_hp_lt (fun j hj => (hw.2.2.2.2.2.2.1 l j hj).2)
theorem s_lsB {s : zS} (hw : s_wf s) (l : Nat) : lsB (s_kd s l) (s_rows s l) (s_hm s l) (s_hp s l) (s_wt s l) := by
  have hl := s_rows_len hw l (s_nc s)
  have hp := s_hp_lt hw l
  have h1 := s_rows_1024 hw l (Nat.le_refl (s_nc s))
  obtain ⟨w1, w2, w3, w4, w5, w6, w7, w8, w9, w10⟩ := hw
  have h6 := w6 l
  have hl1 := hl.1
  have hl2 := hl.2
  exact ⟨w4 l, h1, by show (s_rowsAt s l (s_nc s)).length ≤ 52; omega, hl.1, p2_10 w1 hp, p2_10 w1 (w5 l)⟩
/-! numbers out of the script -/
def z_isx (x : Int32) (n : Nat) : Bool := decide (¬ x < 0 ∧ x < nI n)
theorem z_isx_true {x : Int32} {n : Nat} (hn : n < 2 ^ 31) (h : z_isx x n = true) : ∃ j, j < n ∧ x = nI j := by
  obtain ⟨h1, h2⟩ := of_decide_eq_true h
  rcases pk_ix x hn with h3 | h3 | h3
  · exact absurd h3 h1
  · exact absurd h2 (Int32.not_lt.mpr h3)
  · exact h3
theorem z_isx_nI {j n : Nat} (hj : j < 2 ^ 31) (hn : n < 2 ^ 31) : z_isx (nI j) n = decide (j < n) := by
  unfold z_isx
  by_cases h : j < n
  · rw [decide_eq_true h, decide_eq_true ⟨nI_pos hj, (nI_ltI hj hn).mpr h⟩]
  · rw [decide_eq_false h, decide_eq_false (fun z => h ((nI_ltI hj hn).mp z.2))]
/-- a mask: not 0, and no bit from np on -/
def z_msk (x : Int32) (np : Nat) : Bool := decide (¬ x ≤ 0 ∧ x < nI (2 ^ np))
theorem z_msk_true {x : Int32} {np : Nat} (hn : np ≤ 10) (h : z_msk x np = true) : ∃ m, 0 < m ∧ m < 2 ^ np ∧ x = nI m := by
  obtain ⟨h1, h2⟩ := of_decide_eq_true h
  have hp : 2 ^ np < 2 ^ 31 := Nat.pow_lt_pow_right (by decide) (by omega)
  rcases pk_ix x hp with h3 | h3 | ⟨m, h3, h4⟩
  · exact absurd (Int32.le_of_lt h3) h1
  · exact absurd h2 (Int32.not_lt.mpr h3)
  · refine ⟨m, Nat.pos_of_ne_zero (fun e => h1 ?_), h3, h4⟩
    rw [h4, e]
    decide
theorem q_df_all {n np : Nat} : q_df n (2 ^ np - 1) = 0 ↔ n < 2 ^ np := by
  constructor
  · intro h
    apply q_lt2
    intro i hi
    have : (q_df n (2 ^ np - 1)).testBit i = false := by rw [h]; simp
    rw [q_df_bit, Nat.testBit_two_pow_sub_one] at this
    simpa [show ¬ i < np by omega] using this
  · intro h
    apply Nat.eq_of_testBit_eq
    intro i
    rw [q_df_bit, Nat.testBit_two_pow_sub_one]
    by_cases hi : i < np
    · simp [hi]
    · rw [q_hi h (by omega)]
      simp
theorem z_msk_and {x : Int32} {np : Nat} (hn : np ≤ 10) : z_msk x np = decide (¬ x = 0 ∧ x &&& (nI (2 ^ np - 1) ^^^ -1) = 0) := by
  obtain ⟨n, hn1, rfl⟩ := q_of x
  have hp : 2 ^ np ≤ 2 ^ 10 := Nat.pow_le_pow_right (by decide) hn
  rw [q_dif]
  have hdl : q_df n (2 ^ np - 1) < 2 ^ 32 := q_df_lt hn1
  unfold z_msk
  by_cases h : n < 2 ^ np
  · have e1 : q_df n (2 ^ np - 1) = 0 := q_df_all.mpr h
    rw [e1]
    by_cases h0 : n = 0
    · subst h0
      rw [decide_eq_false (fun z => z.1 (by decide)), decide_eq_false (fun z => z.1 rfl)]
    · rw [decide_eq_true ⟨nI_nle (by omega) (by omega), (nI_ltI (by omega) (by omega)).mpr h⟩, decide_eq_true ⟨nI_ne0 (by omega) (by omega), rfl⟩]
  · have e1 : q_df n (2 ^ np - 1) ≠ 0 := fun z => h (q_df_all.mp z)
    have e2 : ¬ (nI (q_df n (2 ^ np - 1)) = 0) := fun z => e1 (q_eqN hdl (by decide) z)
    have r1 : decide (¬ nI n = 0 ∧ nI (q_df n (2 ^ np - 1)) = 0) = false := decide_eq_false (fun z => e2 z.2)
    rw [r1]
    apply decide_eq_false
    rintro ⟨h1, h2⟩
    rcases pk_ix (nI n) (show 2 ^ np < 2 ^ 31 by omega) with h3 | h3 | ⟨m, h3, h4⟩
    · exact h1 (Int32.le_of_lt h3)
    · exact absurd h2 (Int32.not_lt.mpr h3)
    · have := q_eqN hn1 (by omega) h4
      omega
