/-! PLANS: the theory -/
def pl_go (F : Nat → Option (List Nat)) : Nat → Nat → Option (List Nat)
  | 0, _ => none
  | c + 1, m => match F m with
    | some e => some (m :: e)
    | none => pl_go F c (m + 1)
def pl_last : List Nat → Nat
  | [] => 0
  | a :: _ => a
def pl_find (P : List Nat → Bool) (ok : List Nat → Nat → Bool) (top : Nat) : Nat → List Nat → Option (List Nat)
  | 0, pre => if P pre then some [] else none
  | k + 1, pre => pl_go (fun m => if ok pre m then pl_find P ok top k (m :: pre) else none) (top - pl_last pre) (pl_last pre + 1)
def pl_V (ok : List Nat → Nat → Bool) (top : Nat) : List Nat → List Nat → Prop
  | _, [] => True
  | pre, m :: e => (pl_last pre < m ∧ m ≤ top ∧ ok pre m = true) ∧ pl_V ok top (m :: pre) e
def pl_rev : List Nat → List Nat → List Nat
  | pre, [] => pre
  | pre, m :: e => pl_rev (m :: pre) e
def pl_le : List Nat → List Nat → Prop
  | [], [] => True
  | a :: x, b :: y => a < b ∨ (a = b ∧ pl_le x y)
  | _, _ => False
theorem pl_go_some {F : Nat → Option (List Nat)} : ∀ {c m : Nat} {e : List Nat}, pl_go F c m = some e → ∃ k e', m ≤ k ∧ k < m + c ∧ F k = some e' ∧ e = k :: e' ∧ ∀ j, m ≤ j → j < k → F j = none
  | 0, _, _, h => by cases h
  | c + 1, m, e, h => by
    simp only [pl_go] at h
    cases hF : F m with
    | some e' =>
      rw [hF] at h
      cases h
      exact ⟨m, e', Nat.le_refl _, by omega, hF, rfl, fun j h1 h2 => absurd h2 (by omega)⟩
    | none =>
      rw [hF] at h
      obtain ⟨k, e', h1, h2, h3, h4, h5⟩ := pl_go_some (F := F) h
      refine ⟨k, e', by omega, by omega, h3, h4, fun j h6 h7 => ?_⟩
      by_cases e : j = m
      · rw [e]
        exact hF
      · exact h5 j (by omega) h7
theorem pl_go_none {F : Nat → Option (List Nat)} : ∀ {c m : Nat}, pl_go F c m = none → ∀ k, m ≤ k → k < m + c → F k = none
  | 0, _, _, k, h1, h2 => absurd h2 (by omega)
  | c + 1, m, h, k, h1, h2 => by
    simp only [pl_go] at h
    cases hF : F m with
    | some e' =>
      rw [hF] at h
      cases h
    | none =>
      rw [hF] at h
      by_cases e : k = m
      · rw [e]
        exact hF
      · exact pl_go_none h k (by omega) (by omega)
theorem pl_find_none {P : List Nat → Bool} {ok : List Nat → Nat → Bool} {top : Nat} : ∀ {k : Nat} {pre : List Nat}, pl_find P ok top k pre = none → ∀ e, e.length = k → pl_V ok top pre e → P (pl_rev pre e) = false
  | 0, pre, h, e, he, hv => by
    rw [List.length_eq_zero_iff] at he
    subst he
    simp only [pl_find] at h
    split at h
    · cases h
    · rename_i hn
      exact Bool.not_eq_true _ ▸ hn
  | k + 1, pre, h, [], he, _ => by cases he
  | k + 1, pre, h, m :: e, he, hv => by
    have h1 := pl_go_none h m (by have := hv.1.1; omega) (by have := hv.1.2.1; have := hv.1.1; omega)
    simp only [hv.1.2.2, if_true] at h1
    exact pl_find_none h1 e (by simpa using he) hv.2
theorem pl_find_some {P : List Nat → Bool} {ok : List Nat → Nat → Bool} {top : Nat} : ∀ {k : Nat} {pre e : List Nat}, pl_find P ok top k pre = some e → e.length = k ∧ pl_V ok top pre e ∧ P (pl_rev pre e) = true ∧ ∀ e', e'.length = k → pl_V ok top pre e' → P (pl_rev pre e') = true → pl_le e e'
  | 0, pre, e, h => by
    simp only [pl_find] at h
    split at h
    · rename_i hp
      cases h
      refine ⟨rfl, trivial, hp, fun e' h1 _ _ => ?_⟩
      rw [List.length_eq_zero_iff] at h1
      subst h1
      trivial
    · cases h
  | k + 1, pre, e, h => by
    obtain ⟨m, e1, h1, h2, h3, h4, h5⟩ := pl_go_some h
    subst h4
    by_cases ho : ok pre m = true
    · simp only [ho, if_true] at h3
      have ih := pl_find_some h3
      refine ⟨by simp [ih.1], ⟨⟨by omega, by omega, ho⟩, ih.2.1⟩, ih.2.2.1, fun e' g1 g2 g3 => ?_⟩
      cases e' with
      | nil => cases g1
      | cons m' e' =>
        have g4 := g2.1
        rcases Nat.lt_trichotomy m m' with h | h | h
        · exact Or.inl h
        · subst h
          exact Or.inr ⟨rfl, ih.2.2.2 e' (by simpa using g1) g2.2 g3⟩
        · have g5 := h5 m' (by omega) h
          simp only [g4.2.2, if_true] at g5
          have g6 := pl_find_none g5 e' (by simpa using g1) g2.2
          have g7 : P (pl_rev (m' :: pre) e') = true := g3
          rw [g6] at g7
          cases g7
    · simp only [ho] at h3
      cases h3
theorem pl_le_refl : ∀ a, pl_le a a
  | [] => trivial
  | _ :: x => Or.inr ⟨rfl, pl_le_refl x⟩
theorem pl_le_trans : ∀ {a b c : List Nat}, pl_le a b → pl_le b c → pl_le a c
  | [], [], _, _, h => h
  | [], _ :: _, _, h, _ => h.elim
  | _ :: _, [], _, h, _ => h.elim
  | _ :: _, _ :: _, [], _, h => h.elim
  | x :: a, y :: b, z :: c, h1, h2 => by
    rcases h1 with h1 | ⟨h1, h1'⟩ <;> rcases h2 with h2 | ⟨h2, h2'⟩
    · exact Or.inl (by omega)
    · exact Or.inl (by omega)
    · exact Or.inl (by omega)
    · exact Or.inr ⟨by omega, pl_le_trans h1' h2'⟩
theorem pl_le_anti : ∀ {a b : List Nat}, pl_le a b → pl_le b a → a = b
  | [], [], _, _ => rfl
  | [], _ :: _, h, _ => h.elim
  | _ :: _, [], h, _ => h.elim
  | x :: a, y :: b, h1, h2 => by
    rcases h1 with h1 | ⟨h1, h1'⟩ <;> rcases h2 with h2 | ⟨h2, h2'⟩
    · omega
    · omega
    · omega
    · rw [h1, pl_le_anti h1' h2']
theorem pl_rev_mem : ∀ {e pre : List Nat} {x : Nat}, x ∈ pl_rev pre e ↔ x ∈ pre ∨ x ∈ e
  | [], pre, x => by simp [pl_rev]
  | m :: e, pre, x => by
    simp only [pl_rev]
    rw [pl_rev_mem, List.mem_cons, List.mem_cons]
    constructor
    · rintro ((h | h) | h)
      · exact Or.inr (Or.inl h)
      · exact Or.inl h
      · exact Or.inr (Or.inr h)
    · rintro (h | h | h)
      · exact Or.inl (Or.inr h)
      · exact Or.inl (Or.inl h)
      · exact Or.inr h
theorem l_sp_mem : ∀ {rs : List Nat} {r : Nat}, r ∈ rs → l_sp rs r = true
  | a :: rs, r, h => by
    rcases List.mem_cons.mp h with h | h
    · subst h
      exact l_sp_head
    · exact l_sp_cons (l_sp_mem h)
theorem l_sp_sub : ∀ {x y : List Nat} {m : Nat}, (∀ r ∈ x, l_sp y r = true) → l_sp x m = true → l_sp y m = true
  | [], y, m, _, h => by
    simp only [l_sp, beq_iff_eq] at h
    subst h
    exact l_sp_0 y
  | r :: x, y, m, hr, h => by
    simp only [l_sp, Bool.or_eq_true] at h
    rcases h with h | h
    · exact l_sp_sub (fun a ha => hr a (List.mem_cons_of_mem _ ha)) h
    · have h1 := l_sp_sub (fun a ha => hr a (List.mem_cons_of_mem _ ha)) h
      have h2 := l_sp_xor h1 (hr r List.mem_cons_self)
      rwa [l_xx] at h2
def pl_any : List Nat → Nat → Bool := fun _ _ => true
def pl_hb : List Nat → Nat
  | [] => 0
  | a :: x => pl_hb x ||| q_top a
def pl_ok (pre : List Nat) (m : Nat) : Bool := decide (m &&& pl_hb pre = 0)
def pl_R (top : Nat) (e : List Nat) : Prop := (∀ x ∈ e, 0 < x ∧ x ≤ top) ∧ e.Pairwise (· < ·)
def pl_red (e : List Nat) : Prop := ∀ a ∈ e, ∀ b ∈ e, a < b → b &&& q_top a = 0
theorem pl_V_any {top : Nat} : ∀ {e pre : List Nat}, pl_V pl_any top pre e ↔ (∀ x ∈ e, pl_last pre < x ∧ x ≤ top) ∧ e.Pairwise (· < ·)
  | [], pre => by simp [pl_V]
  | m :: e, pre => by
    simp only [pl_V, pl_any]
    have ih := pl_V_any (top := top) (e := e) (pre := m :: pre)
    rw [ih, List.pairwise_cons]
    constructor
    · rintro ⟨⟨h1, h2, _⟩, h3, h4⟩
      refine ⟨fun x hx => ?_, fun x hx => (h3 x hx).1, h4⟩
      rcases List.mem_cons.mp hx with h | h
      · subst h
        exact ⟨h1, h2⟩
      · have h5 := h3 x h
        have h6 : m < x := h5.1
        exact ⟨by omega, h5.2⟩
    · rintro ⟨h1, h2, h3⟩
      have h4 := h1 m List.mem_cons_self
      exact ⟨⟨h4.1, h4.2, trivial⟩, fun x hx => ⟨h2 x hx, (h1 x (List.mem_cons_of_mem _ hx)).2⟩, h3⟩
theorem pl_V_0 {top : Nat} {e : List Nat} : pl_V pl_any top [] e ↔ pl_R top e := pl_V_any
theorem pl_V_weak {ok : List Nat → Nat → Bool} {top : Nat} : ∀ {e pre : List Nat}, pl_V ok top pre e → pl_V pl_any top pre e
  | [], _, _ => trivial
  | _ :: _, _, h => ⟨⟨h.1.1, h.1.2.1, rfl⟩, pl_V_weak h.2⟩
theorem q_and_or0 {a b c : Nat} (h1 : a &&& b = 0) (h2 : a &&& c = 0) : a &&& (b ||| c) = 0 := by
  rw [Nat.and_or_distrib_left, h1, h2]
  rfl
theorem pl_V_red {top : Nat} : ∀ {e pre : List Nat}, (∀ x ∈ e, pl_last pre < x ∧ x ≤ top) → e.Pairwise (· < ·) → pl_red e → (∀ x ∈ e, x &&& pl_hb pre = 0) → pl_V pl_ok top pre e
  | [], _, _, _, _, _ => trivial
  | m :: e, pre, h1, h2, h3, h4 => by
    have h5 := List.pairwise_cons.mp h2
    have h6 := h1 m List.mem_cons_self
    refine ⟨⟨h6.1, h6.2, decide_eq_true (h4 m List.mem_cons_self)⟩, pl_V_red (fun x hx => ⟨h5.1 x hx, (h1 x (List.mem_cons_of_mem _ hx)).2⟩) h5.2 (fun a ha b hb => h3 a (List.mem_cons_of_mem _ ha) b (List.mem_cons_of_mem _ hb)) (fun x hx => ?_)⟩
    exact q_and_or0 (h4 x (List.mem_cons_of_mem _ hx)) (h3 m List.mem_cons_self x (List.mem_cons_of_mem _ hx) (h5.1 x hx))
def pl_ins (x : Nat) : List Nat → List Nat
  | [] => [x]
  | c :: L => if x < c then x :: c :: L else c :: pl_ins x L
theorem pl_ins_mem {x y : Nat} : ∀ {L : List Nat}, y ∈ pl_ins x L ↔ y = x ∨ y ∈ L
  | [] => by simp [pl_ins]
  | c :: L => by
    simp only [pl_ins]
    split
    · simp
    · rw [List.mem_cons, pl_ins_mem, List.mem_cons]
      constructor
      · rintro (h | h | h)
        · exact Or.inr (Or.inl h)
        · exact Or.inl h
        · exact Or.inr (Or.inr h)
      · rintro (h | h | h)
        · exact Or.inr (Or.inl h)
        · exact Or.inl h
        · exact Or.inr (Or.inr h)
theorem pl_ins_len {x : Nat} : ∀ {L : List Nat}, (pl_ins x L).length = L.length + 1
  | [] => rfl
  | c :: L => by
    simp only [pl_ins]
    split
    · rfl
    · simp [pl_ins_len (x := x) (L := L)]
def pl_sum : List Nat → Nat
  | [] => 0
  | a :: x => a + pl_sum x
theorem pl_ins_sum {x : Nat} : ∀ {L : List Nat}, pl_sum (pl_ins x L) = x + pl_sum L
  | [] => rfl
  | c :: L => by
    simp only [pl_ins]
    split
    · rfl
    · simp only [pl_sum, pl_ins_sum (x := x) (L := L)]
      omega
theorem pl_ins_pw {x : Nat} : ∀ {L : List Nat}, L.Pairwise (· < ·) → x ∉ L → (pl_ins x L).Pairwise (· < ·)
  | [], _, _ => by simp [pl_ins]
  | c :: L, h, hx => by
    have h1 := List.pairwise_cons.mp h
    simp only [pl_ins]
    split
    · rename_i hlt
      refine List.pairwise_cons.mpr ⟨fun y hy => ?_, h⟩
      rcases List.mem_cons.mp hy with e | e
      · subst e
        exact hlt
      · exact Nat.lt_trans hlt (h1.1 y e)
    · rename_i hge
      refine List.pairwise_cons.mpr ⟨fun y hy => ?_, pl_ins_pw h1.2 (fun h => hx (List.mem_cons_of_mem _ h))⟩
      rcases pl_ins_mem.mp hy with e | e
      · subst e
        have : y ≠ c := fun e => hx (by rw [e]; exact List.mem_cons_self)
        omega
      · exact h1.1 y e
theorem pl_ins_le {b' b : Nat} (hlt : b' < b) : ∀ {L : List Nat}, b' ∉ L → pl_le (pl_ins b' L) (pl_ins b L)
  | [], _ => Or.inl hlt
  | c :: L, h => by
    simp only [pl_ins]
    have hne : b' ≠ c := fun e => h (by rw [e]; exact List.mem_cons_self)
    by_cases h1 : b' < c
    · rw [if_pos h1]
      by_cases h2 : b < c
      · rw [if_pos h2]
        exact Or.inl hlt
      · rw [if_neg h2]
        exact Or.inl h1
    · rw [if_neg h1, if_neg (by omega)]
      exact Or.inr ⟨rfl, pl_ins_le hlt (fun h' => h (List.mem_cons_of_mem _ h'))⟩
def pl_del (b : Nat) : List Nat → List Nat
  | [] => []
  | c :: L => if c = b then L else c :: pl_del b L
theorem pl_del_mem {b x : Nat} : ∀ {L : List Nat}, L.Pairwise (· < ·) → (x ∈ pl_del b L ↔ x ∈ L ∧ x ≠ b)
  | [], _ => by simp [pl_del]
  | c :: L, h => by
    have h1 := List.pairwise_cons.mp h
    simp only [pl_del]
    by_cases e : c = b
    · subst e
      rw [if_pos rfl, List.mem_cons]
      constructor
      · intro h2
        have := h1.1 x h2
        exact ⟨Or.inr h2, by omega⟩
      · rintro ⟨h2 | h2, h3⟩
        · exact absurd h2 h3
        · exact h2
    · rw [if_neg e, List.mem_cons, pl_del_mem h1.2, List.mem_cons]
      constructor
      · rintro (h2 | ⟨h2, h3⟩)
        · subst h2
          exact ⟨Or.inl rfl, e⟩
        · exact ⟨Or.inr h2, h3⟩
      · rintro ⟨h2 | h2, h3⟩
        · exact Or.inl h2
        · exact Or.inr ⟨h2, h3⟩
theorem pl_del_pw {b : Nat} : ∀ {L : List Nat}, L.Pairwise (· < ·) → (pl_del b L).Pairwise (· < ·)
  | [], _ => by simp [pl_del]
  | c :: L, h => by
    have h1 := List.pairwise_cons.mp h
    simp only [pl_del]
    split
    · exact h1.2
    · exact List.pairwise_cons.mpr ⟨fun y hy => h1.1 y ((pl_del_mem h1.2).mp hy).1, pl_del_pw h1.2⟩
theorem pl_ins_del {b : Nat} : ∀ {L : List Nat}, L.Pairwise (· < ·) → b ∈ L → pl_ins b (pl_del b L) = L
  | c :: L, h, hb => by
    have h1 := List.pairwise_cons.mp h
    simp only [pl_del]
    by_cases e : c = b
    · subst e
      rw [if_pos rfl]
      cases L with
      | nil => rfl
      | cons a L =>
        simp only [pl_ins]
        rw [if_pos (h1.1 a List.mem_cons_self)]
    · rw [if_neg e]
      rcases List.mem_cons.mp hb with h2 | h2
      · exact absurd h2.symm e
      · have := h1.1 b h2
        simp only [pl_ins]
        rw [if_neg (by omega), pl_ins_del h1.2 h2]
theorem q_lt_bit : ∀ (i x y : Nat), x.testBit i = false → y.testBit i = true → (∀ j, i < j → x.testBit j = y.testBit j) → x < y
  | 0, x, y, h1, h2, h3 => by
    have e : x / 2 = y / 2 := Nat.eq_of_testBit_eq fun j => by
      rw [Nat.testBit_div_two, Nat.testBit_div_two]
      exact h3 _ (by omega)
    rw [Nat.testBit_zero, decide_eq_false_iff_not] at h1
    rw [Nat.testBit_zero, decide_eq_true_eq] at h2
    omega
  | i + 1, x, y, h1, h2, h3 => by
    have ih := q_lt_bit i (x / 2) (y / 2) (by rw [Nat.testBit_div_two]; exact h1) (by rw [Nat.testBit_div_two]; exact h2) (fun j hj => by
      rw [Nat.testBit_div_two, Nat.testBit_div_two]
      exact h3 _ (by omega))
    omega
theorem pl_low {a b : Nat} (h : b &&& q_top a ≠ 0) (ha : a ≠ 0) : b ^^^ a < b := by
  have hb : b.testBit (Nat.log2 a) = true := by
    cases hc : b.testBit (Nat.log2 a) with
    | true => rfl
    | false => exact absurd ((q_top_and b a).mpr hc) h
  refine q_lt_bit (Nat.log2 a) _ _ ?_ hb (fun j hj => ?_)
  · rw [Nat.testBit_xor, hb, q_top_bit ha]
    rfl
  · have : a.testBit j = false := Nat.testBit_lt_two_pow (Nat.lt_of_lt_of_le Nat.lt_log2_self (Nat.pow_le_pow_right (by decide) hj))
    rw [Nat.testBit_xor, this, Bool.xor_false]
def pl_hP (P : List Nat → Bool) (top : Nat) : Prop := ∀ x y, (∀ r ∈ x, r ≤ top) → (∀ r ∈ y, r ≤ top) → (∀ r ∈ x, l_sp y r = true) → (∀ r ∈ y, l_sp x r = true) → P x = P y
theorem pl_reduce {P : List Nat → Bool} {np n : Nat} (hP : pl_hP P (2 ^ np - 1)) (hmin : ∀ e, pl_R (2 ^ np - 1) e → e.length + 1 = n → P (pl_rev [] e) = false) : ∀ S e, pl_sum e = S → pl_R (2 ^ np - 1) e → e.length = n → P (pl_rev [] e) = true → ∃ e', pl_R (2 ^ np - 1) e' ∧ e'.length = n ∧ P (pl_rev [] e') = true ∧ pl_red e' ∧ pl_le e' e := by
  intro S
  induction S using Nat.strongRecOn with
  | _ S ih =>
    intro e hS hR hn hp
    by_cases hr : pl_red e
    · exact ⟨e, hR, hn, hp, hr, pl_le_refl e⟩
    · have hex : ∃ a, a ∈ e ∧ ∃ b, b ∈ e ∧ a < b ∧ b &&& q_top a ≠ 0 := by
        refine Classical.byContradiction fun hc => hr fun a ha b hb hab => ?_
        refine Classical.byContradiction fun h0 => hc ⟨a, ha, b, hb, hab, h0⟩
      obtain ⟨a, ha, b, hb, hab, h0⟩ := hex
      have hpp := Nat.two_pow_pos np
      have ha' := hR.1 a ha
      have hb' := hR.1 b hb
      have hlow := pl_low h0 (by omega)
      have hm : ∀ x, x ∈ pl_del b e ↔ x ∈ e ∧ x ≠ b := fun x => pl_del_mem hR.2
      have hLR : pl_R (2 ^ np - 1) (pl_del b e) := ⟨fun x hx => hR.1 x ((hm x).mp hx).1, pl_del_pw hR.2⟩
      have hlen : (pl_del b e).length + 1 = n := by
        have := pl_ins_len (x := b) (L := pl_del b e)
        rw [pl_ins_del hR.2 hb] at this
        omega
      have haL : a ∈ pl_del b e := (hm a).mpr ⟨ha, by omega⟩
      have eb : b = (b ^^^ a) ^^^ a := (l_xx b a).symm
      by_cases hin : b ^^^ a ∈ pl_del b e
      · exfalso
        have h1 := hmin _ hLR hlen
        have h2 : P (pl_rev [] e) = P (pl_rev [] (pl_del b e)) := by
          refine hP _ _ (fun r hr => ?_) (fun r hr => ?_) (fun r hr => ?_) (fun r hr => ?_)
          · rcases pl_rev_mem.mp hr with h | h
            · cases h
            · exact (hR.1 r h).2
          · rcases pl_rev_mem.mp hr with h | h
            · cases h
            · exact (hLR.1 r h).2
          · rcases pl_rev_mem.mp hr with h | h
            · cases h
            · by_cases e1 : r = b
              · have h9 := l_sp_xor (l_sp_mem (pl_rev_mem.mpr (Or.inr hin)) : l_sp (pl_rev [] (pl_del b e)) (b ^^^ a) = true) (l_sp_mem (pl_rev_mem.mpr (Or.inr haL)))
                rw [l_xx] at h9
                rw [e1]
                exact h9
              · exact l_sp_mem (pl_rev_mem.mpr (Or.inr ((hm r).mpr ⟨h, e1⟩)))
          · rcases pl_rev_mem.mp hr with h | h
            · cases h
            · exact l_sp_mem (pl_rev_mem.mpr (Or.inr ((hm r).mp h).1))
        rw [h2, h1] at hp
        cases hp
      · have hpos : 0 < b ^^^ a := by
          rcases Nat.eq_zero_or_pos (b ^^^ a) with h | h
          · have := l_x0 h
            omega
          · exact h
        have hxl : b ^^^ a ≤ 2 ^ np - 1 := by omega
        have hnew : pl_R (2 ^ np - 1) (pl_ins (b ^^^ a) (pl_del b e)) := by
          refine ⟨fun x hx => ?_, pl_ins_pw hLR.2 hin⟩
          rcases pl_ins_mem.mp hx with h | h
          · subst h
            exact ⟨hpos, hxl⟩
          · exact hLR.1 x h
        have hpn : P (pl_rev [] e) = P (pl_rev [] (pl_ins (b ^^^ a) (pl_del b e))) := by
          refine hP _ _ (fun r hr => ?_) (fun r hr => ?_) (fun r hr => ?_) (fun r hr => ?_)
          · rcases pl_rev_mem.mp hr with h | h
            · cases h
            · exact (hR.1 r h).2
          · rcases pl_rev_mem.mp hr with h | h
            · cases h
            · exact (hnew.1 r h).2
          · rcases pl_rev_mem.mp hr with h | h
            · cases h
            · by_cases e1 : r = b
              · have h9 := l_sp_xor (l_sp_mem (pl_rev_mem.mpr (Or.inr (pl_ins_mem.mpr (Or.inl rfl)))) : l_sp (pl_rev [] (pl_ins (b ^^^ a) (pl_del b e))) (b ^^^ a) = true) (l_sp_mem (pl_rev_mem.mpr (Or.inr (pl_ins_mem.mpr (Or.inr haL)))))
                rw [l_xx] at h9
                rw [e1]
                exact h9
              · exact l_sp_mem (pl_rev_mem.mpr (Or.inr (pl_ins_mem.mpr (Or.inr ((hm r).mpr ⟨h, e1⟩)))))
          · rcases pl_rev_mem.mp hr with h | h
            · cases h
            · rcases pl_ins_mem.mp h with h1 | h1
              · subst h1
                exact l_sp_xor (l_sp_mem (pl_rev_mem.mpr (Or.inr hb))) (l_sp_mem (pl_rev_mem.mpr (Or.inr ha)))
              · exact l_sp_mem (pl_rev_mem.mpr (Or.inr ((hm r).mp h1).1))
        have hsum : pl_sum (pl_ins (b ^^^ a) (pl_del b e)) < S := by
          have h1 := pl_ins_sum (x := b) (L := pl_del b e)
          rw [pl_ins_del hR.2 hb] at h1
          rw [pl_ins_sum]
          omega
        obtain ⟨e', r1, r2, r3, r4, r5⟩ := ih _ hsum _ rfl hnew (by rw [pl_ins_len]; exact hlen) (by rw [← hpn]; exact hp)
        refine ⟨e', r1, r2, r3, r4, pl_le_trans r5 ?_⟩
        have := pl_ins_le hlow hin
        rwa [pl_ins_del hR.2 hb] at this
theorem pl_same {P : List Nat → Bool} {np n : Nat} (hP : pl_hP P (2 ^ np - 1)) (hmin : ∀ j, j < n → pl_find P pl_any (2 ^ np - 1) j [] = none) : pl_find P pl_ok (2 ^ np - 1) n [] = pl_find P pl_any (2 ^ np - 1) n [] := by
  have hm : ∀ e, pl_R (2 ^ np - 1) e → e.length + 1 = n → P (pl_rev [] e) = false := fun e he hl => pl_find_none (hmin e.length (by omega)) e rfl (pl_V_0.mpr he)
  cases h1 : pl_find P pl_any (2 ^ np - 1) n [] with
  | none =>
    cases h2 : pl_find P pl_ok (2 ^ np - 1) n [] with
    | none => rfl
    | some e =>
      have g := pl_find_some h2
      have := pl_find_none h1 e g.1 (pl_V_weak g.2.1)
      rw [g.2.2.1] at this
      cases this
  | some e =>
    have g := pl_find_some h1
    obtain ⟨e', r1, r2, r3, r4, r5⟩ := pl_reduce hP hm _ e rfl (pl_V_0.mp g.2.1) g.1 g.2.2.1
    have hv : pl_V pl_ok (2 ^ np - 1) [] e' := pl_V_red r1.1 r1.2 r4 (fun x _ => by show x &&& 0 = 0; rw [Nat.and_zero])
    cases h2 : pl_find P pl_ok (2 ^ np - 1) n [] with
    | none =>
      have := pl_find_none h2 e' r2 hv
      rw [r3] at this
      cases this
    | some e2 =>
      have g2 := pl_find_some h2
      have a1 := g2.2.2.2 e' r2 hv r3
      have a2 := g.2.2.2 e2 g2.1 (pl_V_weak g2.2.1) g2.2.2.1
      rw [pl_le_anti a2 (pl_le_trans a1 r5)]
