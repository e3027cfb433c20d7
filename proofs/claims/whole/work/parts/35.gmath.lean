/-! GROUPS: the theory -/
theorem g_low_ok : ∀ m, m < 1024 → 0 < m → q_low m = 2 ^ q_ctz m ∧ q_ctz m < 10 ∧ m.testBit (q_ctz m) = true ∧ m &&& (m - 1) = q_df m (q_low m) ∧ q_pop (q_df m (q_low m)) + 1 = q_pop m ∧ q_pop m ≤ 10 ∧ ∀ i, i < q_ctz m → m.testBit i = false := by decide +kernel
theorem g_sub {a b : Nat} : q_df a b = 0 ↔ ∀ i, a.testBit i = true → b.testBit i = true := by
  constructor
  · intro h i hi
    have h2 := q_df_bit a b i
    rw [h, hi, Nat.zero_testBit] at h2
    cases hb : b.testBit i with
    | true => rfl
    | false => rw [hb] at h2; cases h2
  · intro h
    apply Nat.eq_of_testBit_eq
    intro i
    rw [q_df_bit, Nat.zero_testBit]
    cases ha : a.testBit i with
    | true => rw [h i ha]; rfl
    | false => rfl
theorem g_sub_le {a b : Nat} (h : q_df a b = 0) : a ≤ b := by
  have e : a &&& b = a := by
    apply Nat.eq_of_testBit_eq
    intro i
    rw [Nat.testBit_and]
    cases ha : a.testBit i with
    | true => rw [g_sub.mp h i ha]; rfl
    | false => rfl
  rw [← e]
  exact Nat.and_le_right
theorem g_sub_eq {a b : Nat} (h1 : q_df a b = 0) (h2 : q_df b a = 0) : a = b := Nat.le_antisymm (g_sub_le h1) (g_sub_le h2)
theorem g_df_sub (a b : Nat) : q_df (q_df a b) a = 0 := g_sub.mpr fun i hi => by
  rw [q_df_bit] at hi
  cases ha : a.testBit i with
  | true => rfl
  | false => rw [ha] at hi; cases hi
theorem g_df_le (a b : Nat) : q_df a b ≤ a := g_sub_le (g_df_sub a b)
theorem g_df_lts {a b i : Nat} (h1 : a.testBit i = true) (h2 : b.testBit i = true) : q_df a b < a := by
  rcases Nat.lt_or_eq_of_le (g_df_le a b) with h | h
  · exact h
  · have h3 := q_df_bit a b i
    rw [h, h1, h2] at h3
    cases h3
theorem g_df_00 (a : Nat) : q_df a a = 0 := g_sub.mpr fun _ h => h
theorem g_df_0 (a : Nat) : q_df a 0 = a := by
  apply Nat.eq_of_testBit_eq
  intro i
  rw [q_df_bit, Nat.zero_testBit]
  cases a.testBit i <;> rfl
/-- of two parts of s, the smaller is at most the part next below the greater -/
theorem g_prev : ∀ (g x s : Nat), q_df x s = 0 → q_df g s = 0 → x < g → x ≤ (g - 1) &&& s := by
  intro g
  induction g using Nat.strongRecOn with
  | _ g ih =>
    intro x s hx hg hlt
    have hx0 := g_sub.mp hx
    have hg0 := g_sub.mp hg
    rcases Nat.mod_two_eq_zero_or_one g with h0 | h1
    · have hh : x / 2 ≤ (g / 2 - 1) &&& (s / 2) := ih (g / 2) (by omega) (x / 2) (s / 2)
        (g_sub.mpr fun i hi => by rw [Nat.testBit_div_two] at hi ⊢; exact hx0 _ hi)
        (g_sub.mpr fun i hi => by rw [Nat.testBit_div_two] at hi ⊢; exact hg0 _ hi) (by omega)
      have e1 : ((g - 1) &&& s) / 2 = (g / 2 - 1) &&& (s / 2) := by
        rw [Nat.and_div_two, show (g - 1) / 2 = g / 2 - 1 by omega]
      have e2 : ((g - 1) &&& s) % 2 = s % 2 := by
        have := Nat.and_mod_two_pow (a := g - 1) (b := s) (n := 1)
        rw [Nat.pow_one] at this
        rw [this, show (g - 1) % 2 = 1 by omega]
        rcases Nat.mod_two_eq_zero_or_one s with h | h <;> rw [h] <;> rfl
      have e3 : x % 2 ≤ s % 2 := by
        have := hx0 0
        rw [Nat.testBit_zero, Nat.testBit_zero, decide_eq_true_eq, decide_eq_true_eq] at this
        omega
      omega
    · have e : (g - 1) &&& s = g - 1 := by
        apply Nat.eq_of_testBit_eq
        intro i
        rw [Nat.testBit_and]
        cases hb : (g - 1).testBit i with
        | false => rfl
        | true =>
          cases i with
          | zero =>
            rw [Nat.testBit_zero, decide_eq_true_eq] at hb
            omega
          | succ i =>
            rw [← Nat.testBit_div_two, show (g - 1) / 2 = g / 2 by omega, Nat.testBit_div_two] at hb
            rw [hg0 _ hb]
            rfl
      omega
noncomputable def g_G (gc : Nat → Nat → Bool) (g : Nat) : Bool := @decide (∀ i, i < 10 → ∀ j, j < i → g.testBit i = true → g.testBit j = true → gc i j = true) (Classical.propDecidable _)
theorem g_G_iff {gc : Nat → Nat → Bool} {g : Nat} : g_G gc g = true ↔ ∀ i, i < 10 → ∀ j, j < i → g.testBit i = true → g.testBit j = true → gc i j = true := by
  unfold g_G
  exact @decide_eq_true_iff _ (Classical.propDecidable _)
noncomputable def g_ok (gc : Nat → Nat → Bool) (set g : Nat) : Bool := decide (q_df g set = 0) && (g.testBit (q_ctz set) && g_G gc g)
theorem g_ok_iff {gc : Nat → Nat → Bool} {set g : Nat} : g_ok gc set g = true ↔ q_df g set = 0 ∧ g.testBit (q_ctz set) = true ∧ g_G gc g = true := by
  unfold g_ok
  rw [Bool.and_eq_true, Bool.and_eq_true, decide_eq_true_eq]
noncomputable def g_mn (gc : Nat → Nat → Bool) (t : Nat → Nat) (set : Nat) : Nat → Nat
  | 0 => 100
  | k + 1 => if g_ok gc set k then min (g_mn gc t set k) (1 + t (q_df set k)) else g_mn gc t set k
noncomputable def g_tab (gc : Nat → Nat → Bool) : Nat → Nat → Nat
  | 0 => fun _ => 0
  | k + 1 => va_up (g_tab gc k) k (if k = 0 then 0 else g_mn gc (g_tab gc k) k (k + 1))
/-- in how few groups a set can be -/
noncomputable def g_T (gc : Nat → Nat → Bool) (set : Nat) : Nat := g_tab gc (set + 1) set
theorem g_tab_old (gc : Nat → Nat → Bool) {j : Nat} : ∀ k, j < k → g_tab gc k j = g_T gc j
  | k + 1, h => by
    by_cases e : j = k
    · subst e
      rfl
    · show va_up (g_tab gc k) k _ j = _
      rw [u_up_ne e]
      exact g_tab_old gc k (by omega)
theorem g_T_0 (gc : Nat → Nat → Bool) : g_T gc 0 = 0 := by
  show va_up (g_tab gc 0) 0 _ 0 = _
  rw [u_up_same]
  exact if_pos rfl
theorem g_mn_congr {gc : Nat → Nat → Bool} {t t' : Nat → Nat} {set : Nat} (h : ∀ g, g_ok gc set g = true → t (q_df set g) = t' (q_df set g)) : ∀ k, g_mn gc t set k = g_mn gc t' set k
  | 0 => rfl
  | k + 1 => by
    simp only [g_mn, g_mn_congr h k]
    by_cases e : g_ok gc set k = true
    · rw [if_pos e, if_pos e, h k e]
    · rw [if_neg e, if_neg e]
theorem g_ok_lt {gc : Nat → Nat → Bool} {set g : Nat} (hs : set < 1024) (h0 : 0 < set) (h : g_ok gc set g = true) : q_df set g < set := g_df_lts (g_low_ok set hs h0).2.2.1 (g_ok_iff.mp h).2.1
theorem g_T_rec {gc : Nat → Nat → Bool} {set : Nat} (hs : set < 1024) (h0 : 0 < set) : g_T gc set = g_mn gc (g_T gc) set (set + 1) := by
  show va_up (g_tab gc set) set _ set = _
  rw [u_up_same, if_neg (by omega)]
  exact g_mn_congr (fun g hg => g_tab_old gc set (g_ok_lt hs h0 hg)) _
theorem g_mn_le {gc : Nat → Nat → Bool} {t : Nat → Nat} {set g : Nat} (hg : g_ok gc set g = true) : ∀ k, g < k → g_mn gc t set k ≤ 1 + t (q_df set g)
  | k + 1, h => by
    simp only [g_mn]
    by_cases e : g = k
    · subst e
      rw [if_pos hg]
      exact Nat.min_le_right _ _
    · have ih := g_mn_le (t := t) hg k (by omega)
      split
      · exact Nat.le_trans (Nat.min_le_left _ _) ih
      · exact ih
theorem g_mn_ex {gc : Nat → Nat → Bool} {t : Nat → Nat} {set : Nat} : ∀ k, g_mn gc t set k = 100 ∨ ∃ g, g_ok gc set g = true ∧ g_mn gc t set k = 1 + t (q_df set g)
  | 0 => Or.inl rfl
  | k + 1 => by
    simp only [g_mn]
    have ih := g_mn_ex (gc := gc) (t := t) (set := set) k
    by_cases e : g_ok gc set k = true
    · rw [if_pos e]
      rcases Nat.le_total (g_mn gc t set k) (1 + t (q_df set k)) with h | h
      · rw [Nat.min_eq_left h]
        exact ih
      · rw [Nat.min_eq_right h]
        exact Or.inr ⟨k, e, rfl⟩
    · rw [if_neg e]
      exact ih
theorem g_T_le {gc : Nat → Nat → Bool} {set g : Nat} (hs : set < 1024) (h0 : 0 < set) (hg : g_ok gc set g = true) : g_T gc set ≤ 1 + g_T gc (q_df set g) := by
  rw [g_T_rec hs h0]
  exact g_mn_le hg _ (Nat.lt_succ_of_le (g_sub_le (g_ok_iff.mp hg).1))
theorem g_G_low (gc : Nat → Nat → Bool) (c : Nat) : g_G gc (2 ^ c) = true := g_G_iff.mpr fun i _ j hj h1 h2 => by
  rw [Nat.testBit_two_pow, decide_eq_true_eq] at h1 h2
  omega
theorem g_single {gc : Nat → Nat → Bool} {set : Nat} (hs : set < 1024) (h0 : 0 < set) : g_ok gc set (q_low set) = true := by
  have h := g_low_ok set hs h0
  rw [h.1]
  refine g_ok_iff.mpr ⟨g_sub.mpr fun i hi => ?_, ?_, g_G_low gc _⟩
  · rw [Nat.testBit_two_pow, decide_eq_true_eq] at hi
    rw [← hi]
    exact h.2.2.1
  · rw [Nat.testBit_two_pow, decide_eq_true rfl]
theorem g_T_pop (gc : Nat → Nat → Bool) : ∀ set, set < 1024 → g_T gc set ≤ q_pop set := by
  intro set
  induction set using Nat.strongRecOn with
  | _ set ih =>
    intro hs
    rcases Nat.eq_zero_or_pos set with h0 | h0
    · subst h0
      rw [g_T_0]
      exact Nat.zero_le _
    · have h := g_low_ok set hs h0
      have g1 := g_T_le hs h0 (g_single (gc := gc) hs h0)
      have hlt := g_ok_lt hs h0 (g_single (gc := gc) hs h0)
      have h2 := ih _ hlt (by omega)
      have h3 := h.2.2.2.2.1
      omega
theorem g_T_10 (gc : Nat → Nat → Bool) {set : Nat} (hs : set < 1024) : g_T gc set ≤ 10 := by
  rcases Nat.eq_zero_or_pos set with h0 | h0
  · subst h0
    rw [g_T_0]
    omega
  · have h := (g_low_ok set hs h0).2.2.2.2.2.1
    have := g_T_pop gc set hs
    omega
theorem g_T_ex {gc : Nat → Nat → Bool} {set : Nat} (hs : set < 1024) (h0 : 0 < set) : ∃ g, g_ok gc set g = true ∧ g_T gc set = 1 + g_T gc (q_df set g) := by
  rw [g_T_rec hs h0]
  rcases g_mn_ex (gc := gc) (t := g_T gc) (set := set) (set + 1) with h | h
  · have := g_T_10 gc hs
    rw [g_T_rec hs h0] at this
    omega
  · exact h
theorem g_T_pos {gc : Nat → Nat → Bool} {set : Nat} (hs : set < 1024) (h0 : 0 < set) : 0 < g_T gc set := by
  obtain ⟨g, _, h⟩ := g_T_ex (gc := gc) hs h0
  omega
theorem g_T_uniq {gc : Nat → Nat → Bool} {set v : Nat} (hs : set < 1024) (h0 : 0 < set) (h1 : ∀ g, g_ok gc set g = true → v ≤ 1 + g_T gc (q_df set g)) (h2 : 10 ≤ v ∨ ∃ g, g_ok gc set g = true ∧ v = 1 + g_T gc (q_df set g)) : v = g_T gc set := by
  obtain ⟨g, e1, e2⟩ := g_T_ex (gc := gc) hs h0
  have := h1 g e1
  rcases h2 with h | ⟨g', e3, e4⟩
  · have := g_T_10 gc hs
    omega
  · have := g_T_le hs h0 e3
    omega
theorem g_T_one {gc : Nat → Nat → Bool} {set : Nat} (hs : set < 1024) (h0 : 0 < set) : g_T gc set = 1 ↔ g_G gc set = true := by
  constructor
  · intro h
    obtain ⟨g, e1, e2⟩ := g_T_ex (gc := gc) hs h0
    have hz : q_df set g = 0 := by
      rcases Nat.eq_zero_or_pos (q_df set g) with h | h
      · exact h
      · have := g_T_pos (gc := gc) (Nat.lt_of_le_of_lt (g_df_le set g) hs) h
        omega
    have e3 := g_ok_iff.mp e1
    rw [g_sub_eq hz e3.1]
    exact e3.2.2
  · intro h
    have := g_T_le hs h0 (g_ok_iff.mpr ⟨g_df_00 set, (g_low_ok set hs h0).2.2.1, h⟩)
    rw [g_df_00, g_T_0] at this
    have := g_T_pos (gc := gc) hs h0
    omega
theorem g_G_rec {gc : Nat → Nat → Bool} (sy : ∀ i j, gc i j = gc j i) {set : Nat} (hs : set < 1024) (h0 : 0 < set) : g_G gc set = true ↔ g_G gc (q_df set (q_low set)) = true ∧ ∀ j, (q_df set (q_low set)).testBit j = true → gc (q_ctz set) j = true := by
  have h := g_low_ok set hs h0
  have hb : ∀ j, (q_df set (q_low set)).testBit j = true ↔ set.testBit j = true ∧ q_ctz set ≠ j := by
    intro j
    rw [q_df_bit, h.1, Nat.testBit_two_pow]
    simp
  have hlow := h.2.2.2.2.2.2
  have h10 : ∀ j, set.testBit j = true → j < 10 := fun j hj => by
    rcases Nat.lt_or_ge j 10 with h | h
    · exact h
    · rw [q_hi (k := 10) hs h] at hj
      cases hj
  rw [g_G_iff, g_G_iff]
  constructor
  · intro H
    refine ⟨fun i hi j hj h1 h2 => H i hi j hj ((hb i).mp h1).1 ((hb j).mp h2).1, fun j hj => ?_⟩
    have h3 := (hb j).mp hj
    have h4 : q_ctz set < j := by
      rcases Nat.lt_or_ge j (q_ctz set) with h5 | h5
      · have := hlow j h5
        rw [h3.1] at this
        cases this
      · omega
    rw [sy]
    exact H j (h10 j h3.1) _ h4 h3.1 h.2.2.1
  · intro ⟨H1, H2⟩ i hi j hj h1 h2
    by_cases ej : q_ctz set = j
    · subst ej
      rw [sy]
      exact H2 i ((hb i).mpr ⟨h1, by omega⟩)
    · by_cases ei : q_ctz set = i
      · have := hlow j (by omega)
        rw [h2] at this
        cases this
      · exact H1 i hi j hj ((hb i).mpr ⟨h1, ei⟩) ((hb j).mpr ⟨h2, ej⟩)
theorem o_ff_spec {P : Nat → Bool} : ∀ {c k i : Nat}, k ≤ i → i < k + c → P i = true → P (o_ff P c k) = true ∧ k ≤ o_ff P c k ∧ o_ff P c k ≤ i
  | 0, _, _, h1, h2, _ => absurd h2 (by omega)
  | c + 1, k, i, h1, h2, h3 => by
    simp only [o_ff]
    by_cases e : P k = true
    · rw [if_pos e]
      exact ⟨e, Nat.le_refl _, h1⟩
    · rw [if_neg e]
      have h4 : k ≠ i := fun h => e (by rw [h]; exact h3)
      have ih := o_ff_spec (P := P) (c := c) (k := k + 1) (i := i) (by omega) (by omega) h3
      exact ⟨ih.1, by omega, ih.2.2⟩
theorem o_ff_skip {P : Nat → Bool} (n : Nat) : ∀ k, k ≤ n → (∀ i, i < k → P i = false) → o_ff P n 0 = o_ff P (n - k) k
  | 0, _, _ => rfl
  | k + 1, hk, h => by
    rw [o_ff_skip n k (by omega) (fun i hi => h i (by omega)), show n - k = (n - (k + 1)) + 1 by omega]
    simp only [o_ff]
    rw [h k (by omega)]
    rfl
noncomputable def g_P (gc : Nat → Nat → Bool) (set g : Nat) : Bool := g_ok gc set g && decide (1 + g_T gc (q_df set g) = g_T gc set)
noncomputable def g_1st (gc : Nat → Nat → Bool) (set : Nat) : Nat := o_ff (g_P gc set) (set + 1) 0
theorem g_1st_ok {gc : Nat → Nat → Bool} {set : Nat} (hs : set < 1024) (h0 : 0 < set) : g_P gc set (g_1st gc set) = true ∧ g_ok gc set (g_1st gc set) = true ∧ 1 + g_T gc (q_df set (g_1st gc set)) = g_T gc set := by
  obtain ⟨g, e1, e2⟩ := g_T_ex (gc := gc) hs h0
  have hP : g_P gc set g = true := by
    unfold g_P
    rw [e1, decide_eq_true e2.symm]
    rfl
  have hle := g_sub_le (g_ok_iff.mp e1).1
  have h := (o_ff_spec (P := g_P gc set) (c := set + 1) (k := 0) (i := g) (by omega) (by omega) hP).1
  refine ⟨h, ?_⟩
  have h' := h
  unfold g_P at h'
  rw [Bool.and_eq_true, decide_eq_true_eq] at h'
  exact h'
noncomputable def g_set (gc : Nat → Nat → Bool) (n : Nat) : Nat → Nat
  | 0 => 2 ^ n - 1
  | k + 1 => q_df (g_set gc n k) (g_1st gc (g_set gc n k))
theorem g_set_lt (gc : Nat → Nat → Bool) (n : Nat) : ∀ k, g_set gc n k < 2 ^ n
  | 0 => by
    have := Nat.two_pow_pos n
    show 2 ^ n - 1 < 2 ^ n
    omega
  | k + 1 => q_df_lt (g_set_lt gc n k)
theorem g_set_T (gc : Nat → Nat → Bool) {n : Nat} (hn : n ≤ 10) : ∀ k, k ≤ g_T gc (2 ^ n - 1) → g_T gc (g_set gc n k) + k = g_T gc (2 ^ n - 1)
  | 0, _ => rfl
  | k + 1, h => by
    have ih := g_set_T gc hn k (by omega)
    have hl : g_set gc n k < 1024 := p2_10 hn (g_set_lt gc n k)
    rcases Nat.eq_zero_or_pos (g_set gc n k) with h0 | h0
    · rw [h0, g_T_0] at ih
      omega
    · have := (g_1st_ok (gc := gc) hl h0).2.2
      show g_T gc (q_df _ _) + (k + 1) = _
      omega
theorem g_set_pos (gc : Nat → Nat → Bool) {n : Nat} (hn : n ≤ 10) {k : Nat} (h : k < g_T gc (2 ^ n - 1)) : 0 < g_set gc n k := by
  have := g_set_T gc hn k (by omega)
  rcases Nat.eq_zero_or_pos (g_set gc n k) with h0 | h0
  · rw [h0, g_T_0] at this
    omega
  · exact h0
/-- the first of a set, and some of the others -/
theorem g_in {set x : Nat} (hs : set < 1024) (h0 : 0 < set) (hx : q_df x (q_df set (q_low set)) = 0) (hlt : x < q_df set (q_low set)) : q_low set ||| x < set ∧ q_df (q_low set ||| x) set = 0 ∧ (q_low set ||| x).testBit (q_ctz set) = true ∧ q_df set (q_low set ||| x) = q_df (q_df set (q_low set)) x := by
  have h := g_low_ok set hs h0
  have hx' := g_sub.mp hx
  have hb : ∀ j, (q_df set (q_low set)).testBit j = (set.testBit j && !decide (q_ctz set = j)) := by
    intro j
    rw [q_df_bit, h.1, Nat.testBit_two_pow]
  have e1 : q_df (q_low set ||| x) set = 0 := g_sub.mpr fun i hi => by
    rw [Nat.testBit_or, h.1, Nat.testBit_two_pow, Bool.or_eq_true, decide_eq_true_eq] at hi
    rcases hi with hi | hi
    · rw [← hi]
      exact h.2.2.1
    · have := hx' i hi
      rw [hb, Bool.and_eq_true] at this
      exact this.1
  refine ⟨?_, e1, ?_, ?_⟩
  · rcases Nat.lt_or_eq_of_le (g_sub_le e1) with h2 | h2
    · exact h2
    · exfalso
      have : q_df (q_df set (q_low set)) x = 0 := g_sub.mpr fun i hi => by
        rw [hb, Bool.and_eq_true] at hi
        have h3 : (q_low set ||| x).testBit i = true := by rw [h2]; exact hi.1
        rw [Nat.testBit_or, h.1, Nat.testBit_two_pow, Bool.or_eq_true] at h3
        rcases h3 with h3 | h3
        · rw [h3] at hi
          cases hi.2
        · exact h3
      have := g_sub_le this
      omega
  · rw [Nat.testBit_or, h.1, Nat.testBit_two_pow, decide_eq_true rfl]
    rfl
  · apply Nat.eq_of_testBit_eq
    intro i
    rw [q_df_bit, q_df_bit, hb, Nat.testBit_or, h.1, Nat.testBit_two_pow]
    cases set.testBit i <;> cases decide (q_ctz set = i) <;> cases x.testBit i <;> rfl
theorem g_out {set g : Nat} (hs : set < 1024) (h0 : 0 < set) (h1 : q_df g set = 0) (h2 : g.testBit (q_ctz set) = true) (h3 : g ≠ set) : q_df (q_df g (q_low set)) (q_df set (q_low set)) = 0 ∧ q_df g (q_low set) < q_df set (q_low set) ∧ q_low set ||| q_df g (q_low set) = g := by
  have h := g_low_ok set hs h0
  have hg := g_sub.mp h1
  have e1 : q_df (q_df g (q_low set)) (q_df set (q_low set)) = 0 := g_sub.mpr fun i hi => by
    rw [q_df_bit, Bool.and_eq_true] at hi ⊢
    exact ⟨hg i hi.1, hi.2⟩
  have e3 : ∀ y, y.testBit (q_ctz set) = true → q_low set ||| q_df y (q_low set) = y := by
    intro y hy
    apply Nat.eq_of_testBit_eq
    intro i
    rw [Nat.testBit_or, q_df_bit, h.1, Nat.testBit_two_pow]
    by_cases e : q_ctz set = i
    · subst e
      rw [hy, decide_eq_true rfl]
      rfl
    · rw [decide_eq_false e]
      cases y.testBit i <;> rfl
  refine ⟨e1, ?_, e3 g h2⟩
  rcases Nat.lt_or_eq_of_le (g_sub_le e1) with h4 | h4
  · exact h4
  · exfalso
    have a := e3 g h2
    rw [h4, e3 set h.2.2.1] at a
    exact h3 a.symm
