/-! SUMS OF ROWS: exclusive ors of masks below 1024 -/
/-- the exclusive or of f over the bits of m below k -/
def l_to (f : Nat → Nat) (m : Nat) : Nat → Nat
  | 0 => 0
  | k + 1 => if m.testBit k then l_to f m k ^^^ f k else l_to f m k
def l_in (f : Nat → Nat) (m : Nat) : Nat := l_to f m 10
theorem l_x4 (a b c e : Nat) : (a ^^^ b) ^^^ (c ^^^ e) = (a ^^^ c) ^^^ (b ^^^ e) := by
  rw [Nat.xor_assoc, Nat.xor_assoc, ← Nat.xor_assoc b c e, Nat.xor_comm b c, Nat.xor_assoc c b e]
theorem l_xx (a b : Nat) : (a ^^^ b) ^^^ b = a := by rw [Nat.xor_assoc, Nat.xor_self, Nat.xor_zero]
theorem l_xl (a b : Nat) : a ^^^ (a ^^^ b) = b := by rw [← Nat.xor_assoc, Nat.xor_self, Nat.zero_xor]
theorem l_x0 {a b : Nat} (h : a ^^^ b = 0) : a = b := by
  have := congrArg (fun z => z ^^^ b) h
  simp only [Nat.zero_xor] at this
  rwa [l_xx] at this
theorem l_to_xor (f : Nat → Nat) (m m' : Nat) : ∀ k, l_to f (m ^^^ m') k = l_to f m k ^^^ l_to f m' k
  | 0 => by simp [l_to]
  | k + 1 => by
    simp only [l_to, l_to_xor f m m' k, Nat.testBit_xor]
    cases m.testBit k <;> cases m'.testBit k
    · rfl
    · simp [Nat.xor_assoc]
    · simp
      rw [Nat.xor_assoc, Nat.xor_comm (l_to f m' k) (f k), ← Nat.xor_assoc]
    · simp
      rw [l_x4, Nat.xor_self, Nat.xor_zero]
theorem l_in_xor (f : Nat → Nat) (m m' : Nat) : l_in f (m ^^^ m') = l_in f m ^^^ l_in f m' := l_to_xor f m m' 10
theorem l_to_zero (f : Nat → Nat) : ∀ k, l_to f 0 k = 0
  | 0 => rfl
  | k + 1 => by simp [l_to, l_to_zero f k]
theorem l_in_zero (f : Nat → Nat) : l_in f 0 = 0 := l_to_zero f 10
theorem l_to_lt {f : Nat → Nat} {m n : Nat} : ∀ k, (∀ p, p < k → f p < 2 ^ n) → l_to f m k < 2 ^ n
  | 0, _ => Nat.two_pow_pos n
  | k + 1, h => by
    have ih := l_to_lt (m := m) k (fun p hp => h p (by omega))
    simp only [l_to]
    split
    · exact q_xor_lt ih (h k (by omega))
    · exact ih
theorem l_in_lt {f : Nat → Nat} {m : Nat} (h : ∀ p, p < 10 → f p < 1024) : l_in f m < 1024 := l_to_lt (n := 10) 10 h
theorem l_to_congr {f g : Nat → Nat} {m : Nat} : ∀ k, (∀ p, p < k → f p = g p) → l_to f m k = l_to g m k
  | 0, _ => rfl
  | k + 1, h => by
    simp only [l_to, l_to_congr k (fun p hp => h p (by omega)), h k (by omega)]
theorem l_in_congr {f g : Nat → Nat} {m : Nat} (h : ∀ p, p < 10 → f p = g p) : l_in f m = l_in g m := l_to_congr 10 h
theorem l_to_add {f g : Nat → Nat} {m : Nat} : ∀ k, l_to (fun p => f p ^^^ g p) m k = l_to f m k ^^^ l_to g m k
  | 0 => by simp [l_to]
  | k + 1 => by
    simp only [l_to, l_to_add k]
    split
    · rw [l_x4]
    · rfl
theorem l_in_add {f g : Nat → Nat} {m : Nat} : l_in (fun p => f p ^^^ g p) m = l_in f m ^^^ l_in g m := l_to_add 10
theorem l_to_pow {m : Nat} : ∀ k, l_to (fun p => 2 ^ p) m k = m % 2 ^ k
  | 0 => by rw [Nat.pow_zero, Nat.mod_one]; rfl
  | k + 1 => by
    simp only [l_to, l_to_pow k]
    apply Nat.eq_of_testBit_eq
    intro i
    cases hm : m.testBit k
    · simp only [Bool.false_eq_true, if_false, Nat.testBit_mod_two_pow]
      by_cases h : i = k
      · subst h
        simp [hm]
      · by_cases h2 : i < k
        · simp [h2, Nat.lt_succ_of_lt h2]
        · simp [h2, show ¬ i < k + 1 by omega]
    · simp only [if_true, Nat.testBit_xor, Nat.testBit_mod_two_pow, Nat.testBit_two_pow]
      by_cases h : i = k
      · subst h
        simp [hm]
      · by_cases h2 : i < k
        · simp [h2, Nat.lt_succ_of_lt h2, Ne.symm h]
        · simp [h2, show ¬ i < k + 1 by omega, Ne.symm h]
theorem l_in_pow {m : Nat} (h : m < 1024) : l_in (fun p => 2 ^ p) m = m := by
  unfold l_in
  rw [l_to_pow]
  exact Nat.mod_eq_of_lt h
theorem l_to_bit {f : Nat → Nat} {k : Nat} : ∀ n, k < n → l_to f (2 ^ k) n = f k
  | n + 1, h => by
    simp only [l_to, Nat.testBit_two_pow]
    by_cases e : k = n
    · subst e
      have : ∀ j, j ≤ k → l_to f (2 ^ k) j = 0 := by
        intro j
        induction j with
        | zero => intro _; rfl
        | succ j ih =>
          intro hj
          simp only [l_to, Nat.testBit_two_pow, ih (by omega)]
          rw [if_neg (by simp; omega)]
      simp [this k (Nat.le_refl _)]
    · rw [if_neg (by simp [e])]
      exact l_to_bit n (by omega)
theorem l_in_bit {f : Nat → Nat} {k : Nat} (h : k < 10) : l_in f (2 ^ k) = f k := l_to_bit 10 h
/-- what rows make: the newest row first -/
def l_sp : List Nat → Nat → Bool
  | [], m => m == 0
  | r :: rs, m => l_sp rs m || l_sp rs (m ^^^ r)
theorem l_sp_0 : ∀ rs, l_sp rs 0 = true
  | [] => rfl
  | r :: rs => by simp [l_sp, l_sp_0 rs]
theorem l_sp_xor : ∀ {rs : List Nat} {a b : Nat}, l_sp rs a = true → l_sp rs b = true → l_sp rs (a ^^^ b) = true
  | [], a, b, ha, hb => by
    simp only [l_sp, beq_iff_eq] at *
    subst ha hb
    rfl
  | r :: rs, a, b, ha, hb => by
    simp only [l_sp, Bool.or_eq_true] at *
    rcases ha with ha | ha <;> rcases hb with hb | hb
    · exact Or.inl (l_sp_xor ha hb)
    · exact Or.inr (by rw [Nat.xor_assoc]; exact l_sp_xor ha hb)
    · exact Or.inr (by rw [Nat.xor_assoc, Nat.xor_comm b r, ← Nat.xor_assoc]; exact l_sp_xor ha hb)
    · have h := l_sp_xor ha hb
      rw [l_x4, Nat.xor_self, Nat.xor_zero] at h
      exact Or.inl h
theorem l_sp_x {rs : List Nat} {a b : Nat} (ha : l_sp rs a = true) : l_sp rs (a ^^^ b) = l_sp rs b := by
  cases hb : l_sp rs b with
  | true => exact l_sp_xor ha hb
  | false =>
    cases h : l_sp rs (a ^^^ b) with
    | false => rfl
    | true =>
      have := l_sp_xor ha h
      rw [l_xl] at this
      rw [this] at hb
      cases hb
theorem l_sp_cons {r : Nat} {rs : List Nat} {m : Nat} (h : l_sp rs m = true) : l_sp (r :: rs) m = true := by simp [l_sp, h]
theorem l_sp_head {r : Nat} {rs : List Nat} : l_sp (r :: rs) r = true := by simp [l_sp, l_sp_0]
theorem l_sp_old {r : Nat} {rs : List Nat} (h : l_sp rs r = true) (m : Nat) : l_sp (r :: rs) m = l_sp rs m := by
  simp only [l_sp]
  rw [Nat.xor_comm, l_sp_x h, Bool.or_self]
theorem l_sp_lt : ∀ {rs : List Nat} {n m : Nat}, (∀ r ∈ rs, r < 2 ^ n) → l_sp rs m = true → m < 2 ^ n
  | [], n, m, _, h => by
    simp only [l_sp, beq_iff_eq] at h
    subst h
    exact Nat.two_pow_pos n
  | r :: rs, n, m, hr, h => by
    simp only [l_sp, Bool.or_eq_true] at h
    rcases h with h | h
    · exact l_sp_lt (fun x hx => hr x (List.mem_cons_of_mem _ hx)) h
    · have h1 := l_sp_lt (fun x hx => hr x (List.mem_cons_of_mem _ hx)) h
      have h2 := q_xor_lt h1 (hr r List.mem_cons_self)
      rwa [l_xx] at h2
/-- what a listener keeps: the rests, the rows by which, the rank; after a row more -/
def l_kf (f : Nat → Nat) (m : Nat) : Nat → Nat := fun p => if f p &&& q_top (l_in f m) = 0 then f p else f p ^^^ l_in f m
def l_kb (f b : Nat → Nat) (m row : Nat) : Nat → Nat := fun p => if f p &&& q_top (l_in f m) = 0 then b p else b p ^^^ (l_in b m ^^^ row)
def l_nf (f : Nat → Nat) (m : Nat) : Nat → Nat := if l_in f m = 0 then f else l_kf f m
def l_nb (f b : Nat → Nat) (m row : Nat) : Nat → Nat := if l_in f m = 0 then b else l_kb f b m row
def l_f : List Nat → Nat → Nat
  | [] => fun p => 2 ^ p
  | r :: rs => l_nf (l_f rs) r
def l_b : List Nat → Nat → Nat
  | [] => fun _ => 0
  | r :: rs => l_nb (l_f rs) (l_b rs) r (2 ^ rs.length)
/-- the set of the new rows, how many there are -/
def l_nw : List Nat → Nat
  | [] => 0
  | r :: rs => if l_sp rs r then l_nw rs else l_nw rs ||| 2 ^ rs.length
def l_rk : List Nat → Nat
  | [] => 0
  | r :: rs => if l_sp rs r then l_rk rs else l_rk rs + 1
theorem q_top_bit {g : Nat} (h : g ≠ 0) : g.testBit (Nat.log2 g) = true := by
  rw [Nat.testBit_log2 h]
theorem q_top_and (a g : Nat) : (a &&& q_top g = 0) ↔ a.testBit (Nat.log2 g) = false := by
  unfold q_top
  constructor
  · intro h
    have : (a &&& 2 ^ Nat.log2 g).testBit (Nat.log2 g) = false := by rw [h]; simp
    simpa [Nat.testBit_and, Nat.testBit_two_pow] using this
  · intro h
    apply Nat.eq_of_testBit_eq
    intro i
    rw [Nat.testBit_and, Nat.testBit_two_pow]
    by_cases e : Nat.log2 g = i
    · subst e
      simp [h]
    · simp [e]
theorem l_kg_to (f f' : Nat → Nat) (g t m : Nat) (hf : ∀ p, f' p = if (f p).testBit t then f p ^^^ g else f p) : ∀ k, l_to f' m k = if (l_to f m k).testBit t then l_to f m k ^^^ g else l_to f m k
  | 0 => by simp [l_to]
  | k + 1 => by
    have ih := l_kg_to f f' g t m hf k
    have hk := hf k
    have e1 : l_to f' m (k + 1) = if m.testBit k then l_to f' m k ^^^ f' k else l_to f' m k := rfl
    have e2 : l_to f m (k + 1) = if m.testBit k then l_to f m k ^^^ f k else l_to f m k := rfl
    rw [e1, e2, ih, hk]
    generalize l_to f m k = A
    generalize f k = B
    generalize m.testBit k = c
    cases c
    · rfl
    · simp only [if_true, Nat.testBit_xor]
      cases A.testBit t <;> cases B.testBit t
      · rfl
      · simp only [Bool.false_eq_true, if_false, if_true, Bool.false_xor, Nat.xor_assoc]
      · simp only [Bool.false_eq_true, if_false, if_true, Bool.xor_false]
        rw [Nat.xor_assoc, Nat.xor_comm g, ← Nat.xor_assoc]
      · simp only [if_true, Bool.xor_self, Bool.false_eq_true, if_false]
        rw [l_x4, Nat.xor_self, Nat.xor_zero]
theorem l_kf_eq (f : Nat → Nat) (r p : Nat) : l_kf f r p = if (f p).testBit (Nat.log2 (l_in f r)) then f p ^^^ l_in f r else f p := by
  unfold l_kf
  by_cases h : f p &&& q_top (l_in f r) = 0
  · rw [if_pos h, if_neg (by rw [(q_top_and _ _).mp h]; decide)]
  · rw [if_neg h, if_pos]
    cases hb : (f p).testBit (Nat.log2 (l_in f r)) with
    | true => rfl
    | false => exact absurd ((q_top_and _ _).mpr hb) h
theorem l_kf_in (f : Nat → Nat) (r m : Nat) : l_in (l_kf f r) m = if (l_in f m).testBit (Nat.log2 (l_in f r)) then l_in f m ^^^ l_in f r else l_in f m := l_kg_to f (l_kf f r) (l_in f r) (Nat.log2 (l_in f r)) m (l_kf_eq f r) 10
theorem l_kf_lt {f : Nat → Nat} {r : Nat} (h : ∀ p, p < 10 → f p < 1024) : ∀ p, p < 10 → l_kf f r p < 1024 := by
  intro p hp
  unfold l_kf
  split
  · exact h p hp
  · exact q_xor_lt (k := 10) (h p hp) (l_in_lt h)
/-- what holds of the rests: a mask and its rest differ by a sum of rows; sums of rows have no rest -/
theorem l_inv : ∀ (rs : List Nat), (∀ r ∈ rs, r < 1024) → (∀ p, p < 10 → l_f rs p < 1024) ∧ (∀ m, m < 1024 → l_sp rs (m ^^^ l_in (l_f rs) m) = true) ∧ ∀ m, l_sp rs m = true → l_in (l_f rs) m = 0
  | [], _ => by
    refine ⟨fun p hp => ?_, fun m hm => ?_, fun m hm => ?_⟩
    · exact Nat.pow_lt_pow_right (by decide) hp
    · show ((m ^^^ l_in (fun p => 2 ^ p) m) == 0) = true
      rw [l_in_pow hm, Nat.xor_self]
      rfl
    · simp only [l_sp, beq_iff_eq] at hm
      subst hm
      exact l_in_zero _
  | r :: rs, hr => by
    obtain ⟨h1, h2, h3⟩ := l_inv rs (fun x hx => hr x (List.mem_cons_of_mem _ hx))
    have hr1 := hr r List.mem_cons_self
    by_cases hg : l_in (l_f rs) r = 0
    · have hs : l_sp rs r = true := by
        have := h2 r hr1
        rwa [hg, Nat.xor_zero] at this
      have e : l_f (r :: rs) = l_f rs := by
        show l_nf (l_f rs) r = _
        unfold l_nf
        rw [if_pos hg]
      refine ⟨by rw [e]; exact h1, fun m hm => by rw [e]; exact l_sp_cons (h2 m hm), fun m hm => ?_⟩
      rw [l_sp_old hs] at hm
      rw [e]
      exact h3 m hm
    · have e : l_f (r :: rs) = l_kf (l_f rs) r := by
        show l_nf (l_f rs) r = _
        unfold l_nf
        rw [if_neg hg]
      have hgs : l_sp (r :: rs) (l_in (l_f rs) r) = true := by
        have := h2 r hr1
        simp only [l_sp, Bool.or_eq_true]
        exact Or.inr (by rw [Nat.xor_comm]; exact this)
      refine ⟨by rw [e]; exact l_kf_lt h1, fun m hm => ?_, fun m hm => ?_⟩
      · rw [e, l_kf_in]
        split
        · rw [← Nat.xor_assoc]
          exact l_sp_xor (l_sp_cons (h2 m hm)) hgs
        · exact l_sp_cons (h2 m hm)
      · rw [e, l_kf_in]
        simp only [l_sp, Bool.or_eq_true] at hm
        rcases hm with hm | hm
        · rw [h3 m hm]
          simp
        · have h4 := h3 _ hm
          rw [l_in_xor] at h4
          rw [l_x0 h4, if_pos (q_top_bit hg), Nat.xor_self]
theorem l_f_lt {rs : List Nat} (hr : ∀ r ∈ rs, r < 1024) : ∀ p, p < 10 → l_f rs p < 1024 := (l_inv rs hr).1
theorem l_f_sp {rs : List Nat} (hr : ∀ r ∈ rs, r < 1024) {m : Nat} (hm : m < 1024) : l_in (l_f rs) m = 0 ↔ l_sp rs m = true := by
  constructor
  · intro h
    have := (l_inv rs hr).2.1 m hm
    rwa [h, Nat.xor_zero] at this
  · exact (l_inv rs hr).2.2 m
theorem l_f_out {rs : List Nat} (hr : ∀ r ∈ rs, r < 1024) {p : Nat} (hp : p < 10) : l_f rs p = 0 ↔ l_sp rs (2 ^ p) = true := by
  rw [← l_f_sp hr (Nat.pow_lt_pow_right (by decide) hp), l_in_bit hp]
theorem l_f_with {rs : List Nat} (hr : ∀ r ∈ rs, r < 1024) {p m : Nat} (hp : p < 10) (hm : m < 1024) : (l_f rs p = 0 ∨ l_f rs p = l_in (l_f rs) m) ↔ l_sp (m :: rs) (2 ^ p) = true := by
  have h2 : 2 ^ p < 2 ^ 10 := Nat.pow_lt_pow_right (by decide) hp
  simp only [l_sp, Bool.or_eq_true]
  rw [l_f_out hr hp, ← l_f_sp hr (q_xor_lt (k := 10) h2 hm), l_in_xor, l_in_bit hp]
  constructor
  · rintro (h | h)
    · exact Or.inl h
    · exact Or.inr (by rw [h, Nat.xor_self])
  · rintro (h | h)
    · exact Or.inl h
    · exact Or.inr (l_x0 h)
/-- the exclusive or of the rows of a set -/
def l_xb : List Nat → Nat → Nat
  | [], _ => 0
  | r :: rs, b => if b.testBit rs.length then l_xb rs b ^^^ r else l_xb rs b
theorem l_xb_xor : ∀ (rs : List Nat) (b c : Nat), l_xb rs (b ^^^ c) = l_xb rs b ^^^ l_xb rs c
  | [], _, _ => by simp [l_xb]
  | r :: rs, b, c => by
    simp only [l_xb, l_xb_xor rs b c, Nat.testBit_xor]
    cases b.testBit rs.length <;> cases c.testBit rs.length
    · rfl
    · simp [Nat.xor_assoc]
    · simp
      rw [Nat.xor_assoc, Nat.xor_comm (l_xb rs c) r, ← Nat.xor_assoc]
    · simp
      rw [l_x4, Nat.xor_self, Nat.xor_zero]
theorem l_xb_0 : ∀ rs, l_xb rs 0 = 0
  | [] => rfl
  | r :: rs => by simp [l_xb, l_xb_0 rs]
theorem l_xb_sp : ∀ (rs : List Nat) (b : Nat), l_sp rs (l_xb rs b) = true
  | [], _ => rfl
  | r :: rs, b => by
    simp only [l_xb]
    split
    · exact l_sp_xor (l_sp_cons (l_xb_sp rs b)) l_sp_head
    · exact l_sp_cons (l_xb_sp rs b)
theorem l_nw_lt : ∀ rs, l_nw rs < 2 ^ rs.length
  | [] => by decide
  | r :: rs => by
    simp only [l_nw, List.length_cons]
    have h := l_nw_lt rs
    have h2 : l_nw rs < 2 ^ (rs.length + 1) := Nat.lt_of_lt_of_le h (Nat.pow_le_pow_right (by decide) (by omega))
    split
    · exact h2
    · exact q_or_lt h2 (Nat.pow_lt_pow_right (by decide) (by omega))
/-- b has no bit that c has not -/
def l_le (b c : Nat) : Prop := ∀ k, b.testBit k = true → c.testBit k = true
theorem l_le_lt {b c n : Nat} (h : l_le b c) (hc : c < 2 ^ n) : b < 2 ^ n := q_lt2 fun i hi => by
  cases hb : b.testBit i with
  | false => rfl
  | true =>
    have := h i hb
    rw [q_hi hc hi] at this
    cases this
theorem l_le_xor {a b c : Nat} (ha : l_le a c) (hb : l_le b c) : l_le (a ^^^ b) c := by
  intro k hk
  rw [Nat.testBit_xor] at hk
  cases h1 : a.testBit k with
  | true => exact ha k h1
  | false =>
    rw [h1] at hk
    exact hb k (by simpa using hk)
theorem l_xb_uniq : ∀ (rs : List Nat) (c : Nat), l_le c (l_nw rs) → l_xb rs c = 0 → c = 0
  | [], c, h, _ => by
    have := l_le_lt (n := 0) h (l_nw_lt [])
    omega
  | r :: rs, c, h, hx => by
    by_cases hs : l_sp rs r = true
    · have hn : l_nw (r :: rs) = l_nw rs := by simp [l_nw, hs]
      rw [hn] at h
      have hlt := l_le_lt h (l_nw_lt rs)
      simp only [l_xb] at hx
      rw [q_hi hlt (Nat.le_refl _)] at hx
      exact l_xb_uniq rs c h (by simpa using hx)
    · have hs : l_sp rs r = false := by simpa using hs
      have hn : l_nw (r :: rs) = l_nw rs ||| 2 ^ rs.length := by simp [l_nw, hs]
      simp only [l_xb] at hx
      cases hc : c.testBit rs.length with
      | true =>
        rw [hc] at hx
        have e := l_x0 hx
        have := l_xb_sp rs c
        rw [e, hs] at this
        cases this
      | false =>
        rw [hc] at hx
        refine l_xb_uniq rs c (fun k hk => ?_) (by simpa using hx)
        have := h k hk
        rw [hn, Nat.testBit_or, Nat.testBit_two_pow] at this
        by_cases e : rs.length = k
        · subst e
          rw [hc] at hk
          cases hk
        · simpa [e] using this
theorem l_in_le {b : Nat → Nat} {c m : Nat} (h : ∀ p, p < 10 → l_le (b p) c) : l_le (l_in b m) c := by
  have : ∀ k, k ≤ 10 → l_le (l_to b m k) c := by
    intro k
    induction k with
    | zero =>
      intro _ i hi
      simp [l_to] at hi
    | succ k ih =>
      intro hk
      simp only [l_to]
      split
      · exact l_le_xor (ih (by omega)) (h k (by omega))
      · exact ih (by omega)
  exact this 10 (Nat.le_refl _)
theorem l_xb_in (rs : List Nat) (b : Nat → Nat) (m : Nat) : ∀ k, l_xb rs (l_to b m k) = l_to (fun p => l_xb rs (b p)) m k
  | 0 => l_xb_0 rs
  | k + 1 => by
    simp only [l_to]
    split
    · rw [l_xb_xor, l_xb_in rs b m k]
    · exact l_xb_in rs b m k
theorem l_xb_skip {r : Nat} {rs : List Nat} {c : Nat} (h : c < 2 ^ rs.length) : l_xb (r :: rs) c = l_xb rs c := by
  simp only [l_xb]
  rw [q_hi h (Nat.le_refl _)]
  simp
/-- the rows by which: new rows alone, and their sum is the piece and its rest -/
theorem l_b_inv : ∀ (rs : List Nat), (∀ r ∈ rs, r < 1024) → ∀ p, p < 10 → l_le (l_b rs p) (l_nw rs) ∧ l_xb rs (l_b rs p) = 2 ^ p ^^^ l_f rs p
  | [], _, p, _ => by
    refine ⟨fun k hk => ?_, ?_⟩
    · simp [l_b] at hk
    · show 0 = 2 ^ p ^^^ 2 ^ p
      rw [Nat.xor_self]
  | r :: rs, hr, p, hp => by
    have hrs : ∀ x ∈ rs, x < 1024 := fun x hx => hr x (List.mem_cons_of_mem _ hx)
    have ih := l_b_inv rs hrs
    have hr1 := hr r List.mem_cons_self
    by_cases hg : l_in (l_f rs) r = 0
    · have hs : l_sp rs r = true := (l_f_sp hrs hr1).mp hg
      have e1 : l_f (r :: rs) = l_f rs := by show l_nf (l_f rs) r = _; unfold l_nf; rw [if_pos hg]
      have e2 : l_b (r :: rs) = l_b rs := by show l_nb (l_f rs) (l_b rs) r _ = _; unfold l_nb; rw [if_pos hg]
      have hn : l_nw (r :: rs) = l_nw rs := by simp [l_nw, hs]
      rw [e1, e2, hn, l_xb_skip (l_le_lt (ih p hp).1 (l_nw_lt rs))]
      exact ih p hp
    · have hs : l_sp rs r = false := by
        cases h : l_sp rs r with
        | false => rfl
        | true => exact absurd ((l_f_sp hrs hr1).mpr h) hg
      have e1 : l_f (r :: rs) = l_kf (l_f rs) r := by show l_nf (l_f rs) r = _; unfold l_nf; rw [if_neg hg]
      have e2 : l_b (r :: rs) = l_kb (l_f rs) (l_b rs) r (2 ^ rs.length) := by show l_nb (l_f rs) (l_b rs) r _ = _; unfold l_nb; rw [if_neg hg]
      have hn : l_nw (r :: rs) = l_nw rs ||| 2 ^ rs.length := by simp [l_nw, hs]
      have hle : ∀ c, l_le c (l_nw rs) → l_le c (l_nw (r :: rs)) := by
        intro c hc k hk
        rw [hn, Nat.testBit_or, hc k hk]
        rfl
      have hbr : l_le (l_in (l_b rs) r) (l_nw rs) := l_in_le (fun q hq => (ih q hq).1)
      have hbl : l_in (l_b rs) r < 2 ^ rs.length := l_le_lt hbr (l_nw_lt rs)
      have hx : l_xb rs (l_in (l_b rs) r) = r ^^^ l_in (l_f rs) r := by
        unfold l_in
        rw [l_xb_in rs (l_b rs) r 10, l_to_congr (g := fun p => 2 ^ p ^^^ l_f rs p) 10 (fun q hq => (ih q hq).2), l_to_add]
        show l_in (fun p => 2 ^ p) r ^^^ _ = _
        rw [l_in_pow hr1]
      have hgb : l_xb (r :: rs) (l_in (l_b rs) r ^^^ 2 ^ rs.length) = l_in (l_f rs) r := by
        rw [l_xb_xor, l_xb_skip hbl, hx]
        have : l_xb (r :: rs) (2 ^ rs.length) = r := by
          simp only [l_xb, Nat.testBit_two_pow]
          simp
          have h0 : ∀ (xs : List Nat) (n : Nat), xs.length ≤ n → l_xb xs (2 ^ n) = 0 := by
            intro xs
            induction xs with
            | nil => intro n _; rfl
            | cons x xs ih2 =>
              intro n hn
              simp only [List.length_cons] at hn
              simp only [l_xb, Nat.testBit_two_pow]
              rw [if_neg (by simp; omega)]
              exact ih2 n (by omega)
          rw [h0 rs rs.length (Nat.le_refl _), Nat.zero_xor]
        rw [this, Nat.xor_comm r, l_xx]
      rw [e1, e2]
      unfold l_kf l_kb
      by_cases hb : l_f rs p &&& q_top (l_in (l_f rs) r) = 0
      · rw [if_pos hb, if_pos hb, l_xb_skip (l_le_lt (ih p hp).1 (l_nw_lt rs))]
        exact ⟨hle _ (ih p hp).1, (ih p hp).2⟩
      · rw [if_neg hb, if_neg hb]
        refine ⟨l_le_xor (hle _ (ih p hp).1) (l_le_xor (hle _ hbr) ?_), ?_⟩
        · intro k hk
          rw [Nat.testBit_two_pow] at hk
          have : rs.length = k := by simpa using hk
          subst this
          rw [hn, Nat.testBit_or, Nat.testBit_two_pow]
          simp
        · rw [l_xb_xor, hgb, l_xb_skip (l_le_lt (ih p hp).1 (l_nw_lt rs)), (ih p hp).2, Nat.xor_assoc]
/-- just one set of new rows has a given sum -/
theorem l_b_uniq {rs : List Nat} (hr : ∀ r ∈ rs, r < 1024) {p c : Nat} (hp : p < 10) (ho : l_sp rs (2 ^ p) = true) (hc : l_le c (l_nw rs)) (hx : l_xb rs c = 2 ^ p) : c = l_b rs p := by
  have h1 := l_b_inv rs hr p hp
  rw [(l_f_out hr hp).mpr ho, Nat.xor_zero] at h1
  have h2 := l_xb_uniq rs (c ^^^ l_b rs p) (l_le_xor hc h1.1) (by rw [l_xb_xor, hx, h1.2, Nat.xor_self])
  exact l_x0 h2
/-! the rank is at most ten: a bit dies with each new row -/
def l_cnt (P : Nat → Bool) : Nat → Nat
  | 0 => 0
  | k + 1 => l_cnt P k + (P k).toNat
theorem l_cnt_le (P : Nat → Bool) : ∀ k, l_cnt P k ≤ k
  | 0 => Nat.le_refl _
  | k + 1 => by
    have := l_cnt_le P k
    simp only [l_cnt]
    cases P k <;> simp <;> omega
theorem l_cnt_mono {P Q : Nat → Bool} (h : ∀ t, P t = true → Q t = true) : ∀ k, l_cnt P k ≤ l_cnt Q k
  | 0 => Nat.le_refl _
  | k + 1 => by
    have ih := l_cnt_mono h k
    simp only [l_cnt]
    cases hp : P k
    · simp; omega
    · rw [h k hp]; simp; omega
theorem l_cnt_more {P Q : Nat → Bool} (h : ∀ t, P t = true → Q t = true) {t0 : Nat} (h1 : P t0 = false) (h2 : Q t0 = true) : ∀ k, t0 < k → l_cnt P k + 1 ≤ l_cnt Q k
  | k + 1, hk => by
    simp only [l_cnt]
    by_cases e : t0 = k
    · subst e
      have := l_cnt_mono h t0
      rw [h1, h2]
      simp
      omega
    · have ih := l_cnt_more h h1 h2 k (by omega)
      cases hp : P k
      · simp; omega
      · rw [h k hp]; simp; omega
def l_dead (f : Nat → Nat) (t : Nat) : Bool := (List.range 10).all (fun p => !(f p).testBit t)
theorem l_dead_iff {f : Nat → Nat} {t : Nat} : l_dead f t = true ↔ ∀ p, p < 10 → (f p).testBit t = false := by
  simp [l_dead]
theorem l_dead_in {f : Nat → Nat} {t m : Nat} (h : l_dead f t = true) : (l_in f m).testBit t = false := by
  have hd := l_dead_iff.mp h
  have : ∀ k, k ≤ 10 → (l_to f m k).testBit t = false := by
    intro k
    induction k with
    | zero => intro _; simp [l_to]
    | succ k ih =>
      intro hk
      simp only [l_to]
      split
      · rw [Nat.testBit_xor, ih (by omega), hd k (by omega)]
        rfl
      · exact ih (by omega)
  exact this 10 (Nat.le_refl _)
theorem l_rk_dead : ∀ (rs : List Nat), (∀ r ∈ rs, r < 1024) → l_rk rs ≤ l_cnt (l_dead (l_f rs)) 10
  | [], _ => Nat.zero_le _
  | r :: rs, hr => by
    have hrs : ∀ x ∈ rs, x < 1024 := fun x hx => hr x (List.mem_cons_of_mem _ hx)
    have ih := l_rk_dead rs hrs
    have hr1 := hr r List.mem_cons_self
    by_cases hg : l_in (l_f rs) r = 0
    · have hs : l_sp rs r = true := (l_f_sp hrs hr1).mp hg
      have e1 : l_f (r :: rs) = l_f rs := by show l_nf (l_f rs) r = _; unfold l_nf; rw [if_pos hg]
      simp only [l_rk, hs, if_true, e1]
      exact ih
    · have hs : l_sp rs r = false := by
        cases h : l_sp rs r with
        | false => rfl
        | true => exact absurd ((l_f_sp hrs hr1).mpr h) hg
      have e1 : l_f (r :: rs) = l_kf (l_f rs) r := by show l_nf (l_f rs) r = _; unfold l_nf; rw [if_neg hg]
      have hlt := l_in_lt (m := r) (l_f_lt hrs)
      have ht : Nat.log2 (l_in (l_f rs) r) < 10 := (Nat.log2_lt hg).mpr hlt
      have hbit := q_top_bit hg
      have hmono : ∀ t, l_dead (l_f rs) t = true → l_dead (l_kf (l_f rs) r) t = true := by
        intro t hd
        have hd2 := l_dead_in (m := r) hd
        rw [l_dead_iff] at hd ⊢
        intro p hp
        unfold l_kf
        split
        · exact hd p hp
        · rw [Nat.testBit_xor, hd p hp, hd2]
          rfl
      have h1 : l_dead (l_f rs) (Nat.log2 (l_in (l_f rs) r)) = false := by
        cases h : l_dead (l_f rs) (Nat.log2 (l_in (l_f rs) r)) with
        | false => rfl
        | true =>
          have := l_dead_in (m := r) h
          rw [hbit] at this
          cases this
      have h2 : l_dead (l_kf (l_f rs) r) (Nat.log2 (l_in (l_f rs) r)) = true := by
        rw [l_dead_iff]
        intro p hp
        unfold l_kf
        split
        · rename_i h
          exact (q_top_and _ _).mp h
        · rename_i h
          rw [Nat.testBit_xor, hbit]
          cases hb : (l_f rs p).testBit (Nat.log2 (l_in (l_f rs) r)) with
          | true => rfl
          | false => exact absurd ((q_top_and _ _).mpr hb) h
      have := l_cnt_more hmono h1 h2 10 ht
      have e2 : l_rk (r :: rs) = l_rk rs + 1 := by simp [l_rk, hs]
      rw [e1, e2]
      omega
theorem l_rk_le {rs : List Nat} (hr : ∀ r ∈ rs, r < 1024) : l_rk rs ≤ 10 := Nat.le_trans (l_rk_dead rs hr) (l_cnt_le _ 10)
