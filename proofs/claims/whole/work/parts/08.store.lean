/-! THE TYPED STORE. A place is the number of a cell in the order in which the law's run makes them, from 1 on; place 0 is the empty array that ArrayList's static holds. Of a place: its kind and length (T), its references (R), its ints and booleans (I), its longs (J). -/
/-- D; the classes of int[], long[], boolean[], Object[]; the address of place 0; the first address of the run's own cells -/
abbrev zG : Type := va_G × (ClassId × ClassId × ClassId × ClassId) × Nat × Nat
abbrev zH : Type := Nat × (Nat → Nat × Nat) × (Nat → Nat → Option Nat)
abbrev zI : Type := Nat → Nat → Int32
abbrev zJ : Type := Nat → Nat → Int64
def z_ad (G : zG) : Nat → Nat
  | 0 => G.2.2.1
  | k + 1 => G.2.2.2 + k
def z_cv (G : zG) : Value → Value
  | .ref k => .ref (z_ad G k)
  | v => v
def z_R (ci : Nat) : String := match ci with
  | 0 => RJx4a65c
  | 1 => RX0
  | 2 => RX1
  | 3 => RX2
  | 4 => RX3
  | _ => RX4
def z_T (ci : Nat) : u_T := match ci with
  | 0 => TJx4a65c
  | 1 => TX0
  | 2 => TX1
  | 3 => TX2
  | 4 => TX3
  | _ => TX4
def z_ty (ci : Nat) : Nat → FieldType := match ci with
  | 0 => tyJx4a65c
  | 1 => tyX0
  | 2 => tyX1
  | 3 => tyX2
  | 4 => tyX3
  | _ => tyX4
def z_N (ci : Nat) : Nat := match ci with
  | 0 => 3
  | 1 => 3
  | 2 => 9
  | 3 => 6
  | 4 => 10
  | _ => 25
theorem z_cl {ci : Nat} (h : ci < 6) : vwCl[ci]? = some (z_R ci, z_T ci, z_N ci) := by
  rcases (show ci = 0 ∨ ci = 1 ∨ ci = 2 ∨ ci = 3 ∨ ci = 4 ∨ ci = 5 by omega) with rfl | rfl | rfl | rfl | rfl | rfl <;> rfl
theorem z_cl6 {ci : Nat} {r : vw_C} (h : vwCl[ci]? = some r) : ci < 6 := by
  have := (List.getElem?_eq_some_iff.mp h).1
  exact this
theorem z_tyok {ci : Nat} (h : ci < 6) : ∀ k, k < z_N ci → parseFieldDescriptor (z_T ci k).2.2.1 = some (z_ty ci k) := by
  rcases (show ci = 0 ∨ ci = 1 ∨ ci = 2 ∨ ci = 3 ∨ ci = 4 ∨ ci = 5 by omega) with rfl | rfl | rfl | rfl | rfl | rfl
  · exact tyJx4a65c_ok
  · exact tyX0_ok
  · exact tyX1_ok
  · exact tyX2_ok
  · exact tyX3_ok
  · exact tyX4_ok
theorem z_nm {ci : Nat} (h : ci < 6) : ∀ a, a < z_N ci → ∀ b, b < z_N ci → a ≠ b → (z_T ci a).2.1 ≠ (z_T ci b).2.1 := by
  rcases (show ci = 0 ∨ ci = 1 ∨ ci = 2 ∨ ci = 3 ∨ ci = 4 ∨ ci = 5 by omega) with rfl | rfl | rfl | rfl | rfl | rfl
  · exact nmJx4a65c
  · exact nmX0
  · exact nmX1
  · exact nmX2
  · exact nmX3
  · exact nmX4
/-- the tables' words that a call keeps -/
def z_tbl : List Cond := lw_tbl.filter goodWord
theorem z_mem {w : Cond} (h : w ∈ lw_tbl) (hg : goodWord w = true) : w ∈ z_tbl := List.mem_filter.mpr ⟨h, hg⟩
theorem z_in0 : ∀ w ∈ u_ws RJx4a65c TJx4a65c 3, w ∈ z_tbl := by
  have h : ∀ w ∈ u_ws RJx4a65c TJx4a65c 3, w ∈ lw_tbl ∧ goodWord w = true := by decide +kernel
  exact fun w hw => z_mem (h w hw).1 (h w hw).2
theorem z_in1 : ∀ w ∈ u_ws RX0 TX0 3, w ∈ z_tbl := by
  have h : ∀ w ∈ u_ws RX0 TX0 3, w ∈ lw_tbl ∧ goodWord w = true := by decide +kernel
  exact fun w hw => z_mem (h w hw).1 (h w hw).2
theorem z_in2 : ∀ w ∈ u_ws RX1 TX1 9, w ∈ z_tbl := by
  have h : ∀ w ∈ u_ws RX1 TX1 9, w ∈ lw_tbl ∧ goodWord w = true := by decide +kernel
  exact fun w hw => z_mem (h w hw).1 (h w hw).2
theorem z_in3 : ∀ w ∈ u_ws RX2 TX2 6, w ∈ z_tbl := by
  have h : ∀ w ∈ u_ws RX2 TX2 6, w ∈ lw_tbl ∧ goodWord w = true := by decide +kernel
  exact fun w hw => z_mem (h w hw).1 (h w hw).2
theorem z_in4 : ∀ w ∈ u_ws RX3 TX3 10, w ∈ z_tbl := by
  have h : ∀ w ∈ u_ws RX3 TX3 10, w ∈ lw_tbl ∧ goodWord w = true := by decide +kernel
  exact fun w hw => z_mem (h w hw).1 (h w hw).2
theorem z_in5 : ∀ w ∈ u_ws RX4 TX4 25, w ∈ z_tbl := by
  have h : ∀ w ∈ u_ws RX4 TX4 25, w ∈ lw_tbl ∧ goodWord w = true := by decide +kernel
  exact fun w hw => z_mem (h w hw).1 (h w hw).2
theorem z_uin {ci : Nat} (h : ci < 6) : ∀ w ∈ u_ws (z_R ci) (z_T ci) (z_N ci), w ∈ z_tbl := by
  rcases (show ci = 0 ∨ ci = 1 ∨ ci = 2 ∨ ci = 3 ∨ ci = 4 ∨ ci = 5 by omega) with rfl | rfl | rfl | rfl | rfl | rfl
  · exact z_in0
  · exact z_in1
  · exact z_in2
  · exact z_in3
  · exact z_in4
  · exact z_in5
def z_fv (G : zG) (R : Nat → Nat → Option Nat) (I : zI) (J : zJ) (a j : Nat) (ty : FieldType) : Value := match ty with
  | .long => .long (J a j)
  | .object _ => va_rf ((R a j).map (z_ad G))
  | .array _ => va_rf ((R a j).map (z_ad G))
  | _ => .int (I a j)
def z_fs (G : zG) (R : Nat → Nat → Option Nat) (I : zI) (J : zJ) (a ci : Nat) : List Value := (List.range (z_N ci)).map (fun j => z_fv G R I J a j (z_ty ci j))
/-- what lies at a place. Kinds: below 6 an object of that class, 10 int[], 11 long[], 12 boolean[], 13 Object[] -/
def z_cell (G : zG) (h : zH) (I : zI) (J : zJ) (a : Nat) : va_E := match (h.2.1 a).1 with
  | 10 => .inl (G.2.1.1, (h.2.1 a).2, .inl (I a))
  | 11 => .inl (G.2.1.2.1, (h.2.1 a).2, .inr (.inl (J a)))
  | 12 => .inl (G.2.1.2.2.1, (h.2.1 a).2, .inl (I a))
  | 13 => .inl (G.2.1.2.2.2, (h.2.1 a).2, .inr (.inr (.inr (.inr (fun j => (h.2.2 a j).map (z_ad G))))))
  | ci => .inr (ci, z_fs G h.2.2 I J a ci)
def z_ws (G : zG) (h : zH) (I : zI) (J : zJ) : va_W := (List.range h.1).map (fun k => (G.2.2.2 + k, z_cell G h I J (k + 1)))
def z_A (G : zG) : Nat → Prop := fun q => G.2.2.2 ≤ q
def z_tys (G : zG) : List (ClassId × FieldType) := [(G.2.1.1, .int), (G.2.1.2.1, .long), (G.2.1.2.2.1, .boolean), (G.2.1.2.2.2, .object "java/lang/Object")]
/-- the heap holds the store -/
def z_P (G : zG) (h : zH) (I : zI) (J : zJ) (H : Heap) : Prop := va_P G.1 vwCl (z_ws G h I J) H ∧ H.size = G.2.2.2 + h.1 ∧ ∀ a : Nat, (a = 0 ∨ h.1 < a) → 98 < (h.2.1 a).1
/-- what the tables say that isn't among the kept words -/
def z_Nw (U : State) : Prop := va_Nw (.castable "OneCall$Listener" "java/lang/Object") U ∧ va_Nw (.methodLinkNest "OneCall$Knowledge" 29 ⟨"OneCall", "isIn", "(II)Z"⟩ "OneCall") U ∧ va_Nw (.methodLinkNest "OneCall$Needs" 66 ⟨"OneCall", "isIn", "(II)Z"⟩ "OneCall") U ∧ va_AO "java/lang/Object" U
def z_St (G : zG) (U : State) (H : Heap) : Prop := z_Nw U ∧ va_Z "java/util/ArrayList" "DEFAULTCAPACITY_EMPTY_ELEMENTDATA" "[Ljava/lang/Object;" (.ref G.2.2.1) (z_A G) U H ∧ va_T (.object "java/lang/Object") G.2.2.1 0 (fun _ => .null) (z_A G) U H
def z_Rep (G : zG) (h : zH) (I : zI) (J : zJ) (U : State) : Prop := z_P G h I J U.heap ∧ va_K G.1 vwCl (z_tys G) U ∧ z_St G U U.heap ∧ G.2.2.1 < G.2.2.2
theorem z_ws_get {G : zG} {h : zH} {I : zI} {J : zJ} {k : Nat} (hk : k < h.1) : (z_ws G h I J)[k]? = some (G.2.2.2 + k, z_cell G h I J (k + 1)) := by
  unfold z_ws
  rw [List.getElem?_map, List.getElem?_range hk]
  rfl
theorem z_ws_len {G : zG} {h : zH} {I : zI} {J : zJ} : (z_ws G h I J).length = h.1 := by simp [z_ws]
theorem z_ws_set {G : zG} {h h' : zH} {I I' : zI} {J J' : zJ} {k : Nat} (hk : k < h.1) (hn : h'.1 = h.1) (ho : ∀ a, a ≠ k + 1 → z_cell G h' I' J' a = z_cell G h I J a) : (z_ws G h I J).set k (G.2.2.2 + k, z_cell G h' I' J' (k + 1)) = z_ws G h' I' J' := by
  apply List.ext_getElem?
  intro j
  by_cases hj : j = k
  · subst hj
    rw [List.getElem?_set_self (by rw [z_ws_len]; exact hk), z_ws_get (by rw [hn]; exact hk)]
  · rw [List.getElem?_set_ne (Ne.symm hj)]
    by_cases hl : j < h.1
    · rw [z_ws_get hl, z_ws_get (by rw [hn]; exact hl), ho _ (by omega)]
    · rw [List.getElem?_eq_none (by rw [z_ws_len]; omega), List.getElem?_eq_none (by rw [z_ws_len, hn]; omega)]
theorem z_ws_push {G : zG} {h h' : zH} {I I' : zI} {J J' : zJ} (hn : h'.1 = h.1 + 1) (ho : ∀ a, a ≤ h.1 → z_cell G h' I' J' a = z_cell G h I J a) : z_ws G h I J ++ [(G.2.2.2 + h.1, z_cell G h' I' J' (h.1 + 1))] = z_ws G h' I' J' := by
  apply List.ext_getElem?
  intro j
  by_cases hl : j < h.1
  · rw [List.getElem?_append_left (by rw [z_ws_len]; exact hl), z_ws_get hl, z_ws_get (by omega), ho _ (by omega)]
  · rw [List.getElem?_append_right (by rw [z_ws_len]; omega), z_ws_len]
    by_cases hj : j = h.1
    · subst hj
      rw [Nat.sub_self, z_ws_get (by omega)]
      rfl
    · rw [List.getElem?_eq_none (by simp; omega), List.getElem?_eq_none (by rw [z_ws_len]; omega)]
theorem z_D (G : zG) (h : zH) (I : zI) (J : zJ) : va_D (z_A G) (z_ws G h I J) := by
  have key : ∀ (k : Nat) (q : Nat × va_E), (z_ws G h I J)[k]? = some q → q.1 = G.2.2.2 + k := by
    intro k q hq
    have hk : k < h.1 := by have := (List.getElem?_eq_some_iff.mp hq).1; rw [z_ws_len] at this; exact this
    rw [z_ws_get hk] at hq
    cases hq
    rfl
  refine ⟨fun i j x y hi hj hxy => ?_, fun k q hk => ?_⟩
  · have h1 := key i x hi
    have h2 := key j y hj
    omega
  · rw [key k q hk]
    exact Nat.le_add_right _ _
/-- a place with a kind is a cell of the world -/
theorem z_place {G : zG} {h : zH} {I : zI} {J : zJ} {H : Heap} {a : Nat} (hP : z_P G h I J H) (ht : (h.2.1 a).1 < 98) : ∃ k, a = k + 1 ∧ k < h.1 ∧ z_ad G a = G.2.2.2 + k ∧ (z_ws G h I J)[k]? = some (z_ad G a, z_cell G h I J a) := by
  cases a with
  | zero => exact absurd (hP.2.2 0 (Or.inl rfl)) (by omega)
  | succ k =>
    have hk : k < h.1 := by
      rcases Nat.lt_or_ge k h.1 with q | q
      · exact q
      · exact absurd (hP.2.2 (k + 1) (Or.inr (by omega))) (by omega)
    exact ⟨k, rfl, hk, rfl, z_ws_get hk⟩
theorem z_fs_get {G : zG} {R : Nat → Nat → Option Nat} {I : zI} {J : zJ} {a ci k : Nat} (hk : k < z_N ci) : (z_fs G R I J a ci)[k]? = some (z_fv G R I J a k (z_ty ci k)) := by
  unfold z_fs
  rw [List.getElem?_map, List.getElem?_range hk]
  rfl
theorem z_fs_len {G : zG} {R : Nat → Nat → Option Nat} {I : zI} {J : zJ} {a ci : Nat} : (z_fs G R I J a ci).length = z_N ci := by simp [z_fs]
theorem z_fs_set {G : zG} {R R' : Nat → Nat → Option Nat} {I I' : zI} {J J' : zJ} {a ci k : Nat} {v : Value} (hv : z_fv G R' I' J' a k (z_ty ci k) = v) (ho : ∀ j, j ≠ k → z_fv G R' I' J' a j (z_ty ci j) = z_fv G R I J a j (z_ty ci j)) : (z_fs G R I J a ci).set k v = z_fs G R' I' J' a ci := by
  apply List.ext_getElem?
  intro j
  by_cases hl : j < z_N ci
  · by_cases hj : j = k
    · subst hj
      rw [List.getElem?_set_self (by rw [z_fs_len]; exact hl), z_fs_get hl, hv]
    · rw [List.getElem?_set_ne (Ne.symm hj), z_fs_get hl, z_fs_get hl, ho j hj]
  · rw [List.getElem?_eq_none (by simp [z_fs_len]; omega), List.getElem?_eq_none (by rw [z_fs_len]; omega)]
theorem z_cell_o {G : zG} {h : zH} {I : zI} {J : zJ} {a ci : Nat} (ht : (h.2.1 a).1 = ci) (hc : ci < 6) : z_cell G h I J a = .inr (ci, z_fs G h.2.2 I J a ci) := by
  unfold z_cell
  rcases (show ci = 0 ∨ ci = 1 ∨ ci = 2 ∨ ci = 3 ∨ ci = 4 ∨ ci = 5 by omega) with rfl | rfl | rfl | rfl | rfl | rfl <;> (rw [ht]; try rfl)
theorem z_cell_i {G : zG} {h : zH} {I : zI} {J : zJ} {a n : Nat} (ht : h.2.1 a = (10, n)) : z_cell G h I J a = .inl (G.2.1.1, n, .inl (I a)) := by
  unfold z_cell
  rw [ht]
  rfl
theorem z_cell_l {G : zG} {h : zH} {I : zI} {J : zJ} {a n : Nat} (ht : h.2.1 a = (11, n)) : z_cell G h I J a = .inl (G.2.1.2.1, n, .inr (.inl (J a))) := by
  unfold z_cell
  rw [ht]
  rfl
theorem z_cell_z {G : zG} {h : zH} {I : zI} {J : zJ} {a n : Nat} (ht : h.2.1 a = (12, n)) : z_cell G h I J a = .inl (G.2.1.2.2.1, n, .inl (I a)) := by
  unfold z_cell
  rw [ht]
  rfl
theorem z_cell_q {G : zG} {h : zH} {I : zI} {J : zJ} {a n : Nat} (ht : h.2.1 a = (13, n)) : z_cell G h I J a = .inl (G.2.1.2.2.2, n, .inr (.inr (.inr (.inr (fun j => (h.2.2 a j).map (z_ad G)))))) := by
  unfold z_cell
  rw [ht]
  rfl
/-- a cell hangs on its own row of the store alone -/
theorem z_cell_eq {G : zG} {h h' : zH} {I I' : zI} {J J' : zJ} {a : Nat} (h1 : h'.2.1 a = h.2.1 a) (h2 : h'.2.2 a = h.2.2 a) (h3 : I' a = I a) (h4 : J' a = J a) : z_cell G h' I' J' a = z_cell G h I J a := by
  have e : ∀ ci, z_fs G h'.2.2 I' J' a ci = z_fs G h.2.2 I J a ci := by
    intro ci
    unfold z_fs z_fv
    rw [h2, h3, h4]
  unfold z_cell
  rw [h1, h2, h3, h4]
  simp only [e]
/-- one row of a store written anew, at one column -/
def z_u {α : Type} (f : Nat → Nat → α) (a k : Nat) (v : α) : Nat → Nat → α := fun b j => if b = a then (if j = k then v else f b j) else f b j
theorem z_u_row {α : Type} {f : Nat → Nat → α} {a k b : Nat} {v : α} (h : b ≠ a) : z_u f a k v b = f b := by
  funext j
  simp [z_u, h]
theorem z_u_same {α : Type} {f : Nat → Nat → α} {a k : Nat} {v : α} : z_u f a k v a k = v := by simp [z_u]
theorem z_u_col {α : Type} {f : Nat → Nat → α} {a k j : Nat} {v : α} (h : j ≠ k) : z_u f a k v a j = f a j := by simp [z_u, h]
theorem z_u_upd {f : zI} {a k : Nat} {v : Int32} : z_u f a k v a = upd (f a) k v := by
  funext j
  simp [z_u, upd]
theorem z_u_updL {f : zJ} {a k : Nat} {v : Int64} : z_u f a k v a = vp_updL (f a) k v := by
  funext j
  simp [z_u, vp_updL]
/-- a whole row written anew -/
def z_w {α : Type} (f : Nat → Nat → α) (a : Nat) (g : Nat → α) : Nat → Nat → α := fun b => if b = a then g else f b
theorem z_w_row {α : Type} {f : Nat → Nat → α} {a b : Nat} {g : Nat → α} (h : b ≠ a) : z_w f a g b = f b := by simp [z_w, h]
theorem z_w_same {α : Type} {f : Nat → Nat → α} {a : Nat} {g : Nat → α} : z_w f a g a = g := by simp [z_w]
