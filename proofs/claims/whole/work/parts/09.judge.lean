/-! THE JUDGEMENTS. z_V: the machine at a program counter, with locals, operand stack and store, comes to the end that its context names; z_C: a method's contract. -/
abbrev zK : Type := (Program × Launch × Env × Room × State × MethodId × Array Value × List Frame × Method × Code) × (State → Prop) × zG × Nat × Nat
abbrev zL : Type := List (Nat × Value)
abbrev zQ : Type := Option Value → zH → zI → zJ → Prop
def z_lc (G : zG) (ls : zL) : zL := ls.map (fun q => (q.1, z_cv G q.2))
def z_V (K : zK) (pc : Nat) (ls : zL) (st : List Value) (h : zH) (I : zI) (J : zJ) (kc ks : Nat) : Prop := match K with
  | ((p, l, e, R, s, m, args, below, meth, c), Qf, G, mc, ms) => ∀ (H : Heap) (locs : List Loc) (la : Array Slot), z_P G h I J H → va_S (z_A G) s.heap H locs → lv_has la c.maxLocals (z_lc G ls) → kc ≤ mc → ks ≤ ms → W p l e R s m args below meth c H locs (mc - kc) (ms - ks) Qf (F0 m pc la (st.map (z_cv G)))
def z_E (y : MethodName) (cc : ByteArray) (nL : Nat) (ret : Option FieldType) (d : Nat) (K : zK) : Prop := match K with
  | ((p, _, _, R, s, m, args, _, meth, c), _, G, mc, ms) => p.tables.exec = Jvm.exec ∧ c.code = cc ∧ c.maxLocals = nL ∧ meth.sig.returnType = ret ∧ meth.locks = false ∧ meth.name = y.name ∧ s.vm.findClass y.cls = some m.cls ∧ (∀ w ∈ z_tbl, w.before args s = true) ∧ va_K G.1 vwCl (z_tys G) s ∧ z_St G s s.heap ∧ G.2.2.2 ≤ s.heap.size ∧ G.2.2.1 < G.2.2.2 ∧ R.cells = mc ∧ R.slots = ms ∧ d ≤ R.frames ∧ 64 * d ≤ R.locals
def z_room (d kc ks : Nat) : Room := { frames := d, cells := kc, slots := ks, locals := 64 * d }
def z_Qc (G : zG) (Q : zQ) : Array Value → State → Outcome → State → Prop := fun _ st oc t => (∃ (r : Option Value) (h : zH) (I : zI) (J : zJ), oc = .returned (r.map (z_cv G)) ∧ Q r h I J ∧ z_Rep G h I J t) ∧ va_F (z_A G) st t
def z_wd (y : MethodName) (cc : ByteArray) (nL : Nat) (ret : Option FieldType) : List Cond := Cond.code y cc nL ret :: z_tbl
def z_C (y : MethodName) (cc : ByteArray) (nL : Nat) (ret : Option FieldType) (d : Nat) (av : List Value) (h : zH) (I : zI) (J : zJ) (kc ks : Nat) (Q : zQ) : Prop :=
  ∀ (l : Launch) (G : zG), Met l y (z_wd y cc nL ret) (z_room d kc ks) (va_Pc (av.map (z_cv G)) (z_Rep G h I J)) (z_Qc G Q) kc ks (z_A G)
/-- the context's end is a method's: it answers, and Q holds of answer and store -/
def z_X (Q : zQ) (K : zK) : Prop := match K with
  | ((_, _, _, _, s, _, args, below, _, _), Qf, G, mc, ms) => Qf = MQ below (z_Qc G Q) args s mc ms (z_A G)
theorem z_cv_cat (G : zG) (v : Value) : (z_cv G v).category = v.category := by cases v <;> rfl
theorem z_sl (G : zG) : ∀ av : List Value, (lg_sl (av.map (z_cv G))).length = (lg_sl av).length
  | [] => rfl
  | v :: av => by
    have ih := z_sl G av
    cases v <;> simp_all [lg_sl, z_cv, Value.category]
theorem z_args (G : zG) : ∀ (av : List Value) (i : Nat), lv_args i (av.map (z_cv G)) = z_lc G (lv_args i av)
  | [], _ => rfl
  | v :: av, i => by
    show (i, z_cv G v) :: lv_args (if (z_cv G v).category = 2 then i + 2 else i + 1) (av.map (z_cv G)) = _
    rw [z_cv_cat, z_args G av]
    rfl
theorem z_Nw.warm {u U : State} (hW : u.WarmedH U.vm) (h : z_Nw u) : z_Nw U := ⟨h.1.warmC hW, h.2.1.warmM hW, h.2.2.1.warmM hW, h.2.2.2.moved hW.alike⟩
theorem z_Nw.same {u U : State} (hv : u.vm = U.vm) (h : z_Nw u) : z_Nw U := ⟨h.1.same rfl hv, h.2.1.same rfl hv, h.2.2.1.same rfl hv, h.2.2.2.moved (by rw [hv]; exact Vm.Alike.refl _)⟩
theorem z_St.warm {G : zG} {u U : State} {H : Heap} (hW : u.WarmedH U.vm) (h : z_St G u H) : z_St G U H := ⟨h.1.warm hW, h.2.1.moved hW.alike, h.2.2.moved hW.alike⟩
theorem z_St.same {G : zG} {u U : State} {H : Heap} (hv : u.vm = U.vm) (h : z_St G u H) : z_St G U H := ⟨h.1.same hv, h.2.1.moved (by rw [hv]; exact Vm.Alike.refl _), h.2.2.moved (by rw [hv]; exact Vm.Alike.refl _)⟩
theorem z_St.kept {G : zG} {U : State} {H H1 : Heap} (h : z_St G U H) (hq : ∀ a : Nat, a < H.size → ¬ z_A G a → H1[a]? = H[a]?) : z_St G U H1 := ⟨h.1, h.2.1.kept hq, h.2.2.kept hq⟩
theorem z_blind (av : List Value) (G : zG) (h : zH) (I : zI) (J : zJ) : FrameBlind (va_Pc av (z_Rep G h I J)) := by
  intro a U g mk q
  obtain ⟨q0, qP, qK, qS, q1⟩ := q
  exact ⟨q0, qP, va_K.moved (u := U) (U := U.calling g mk a) (Vm.Alike.refl U.vm) qK, z_St.same (u := U) (U := U.calling g mk a) rfl qS, q1⟩
theorem z_C.of {y : MethodName} {cc : ByteArray} {nL : Nat} {ret : Option FieldType} {d : Nat} {av : List Value} {h : zH} {I : zI} {J : zJ} {kc ks : Nat} {Q : zQ} (hy : plainName y.cls = true) (hn : (lg_sl av).length ≤ nL)
    (body : ∀ K : zK, z_E y cc nL ret d K → z_X Q K → z_V K 0 (lv_args 0 av) [] h I J kc ks) : z_C y cc nL ret d av h I J kc ks Q := by
  intro l G
  refine Met.ofW (cc := cc) (maxL := nL) (ret := ret) hy rfl ?_
  intro p e s m args below meth c s₁ B hml hv
  obtain ⟨rfl, hP, hK, hSt, ht0⟩ := hv
  have hts := atoms_spec (ws := z_wd y cc nL ret) B.pre
  have hE : z_E y cc nL ret d ((p, l, e, z_room d kc ks, s, m, (av.map (z_cv G)).toArray, below, meth, c), MQ below (z_Qc G Q) (av.map (z_cv G)).toArray s kc ks (z_A G), G, kc, ks) :=
    ⟨B.exec, B.bytes, hml, B.returns, B.notSynchronized, (name_of_methodNamed B.named B.method).1, findClass_of_methodNamed B.named, fun w hw => hts w (List.mem_cons_of_mem _ hw), hK, hSt, by rw [hP.2.1]; exact Nat.le_add_right _ _, ht0, rfl, rfl, Nat.le_refl _, Nat.le_refl _⟩
  have key := body ((p, l, e, z_room d kc ks, s, m, (av.map (z_cv G)).toArray, below, meth, c), MQ below (z_Qc G Q) (av.map (z_cv G)).toArray s kc ks (z_A G), G, kc, ks) hE rfl
  have hl := lv_entry (av.map (z_cv G)) (n := nL) (by rw [z_sl]; exact hn)
  rw [lg_entry_eq]
  rw [z_args] at hl
  have k2 := key s.heap [] _ hP va_S.rf (by rw [hml]; exact hl) (Nat.le_refl _) (Nat.le_refl _)
  rw [Nat.sub_self, Nat.sub_self] at k2
  exact k2
theorem z_C.weaken {y : MethodName} {cc : ByteArray} {nL : Nat} {ret : Option FieldType} {d : Nat} {av : List Value} {h : zH} {I : zI} {J : zJ} {kc ks : Nat} {Q Q2 : zQ} (hC : z_C y cc nL ret d av h I J kc ks Q) (hQ : ∀ r h I J, Q r h I J → Q2 r h I J) : z_C y cc nL ret d av h I J kc ks Q2 := by
  intro l G
  have hM := hC l G
  intro p e ha hc hk s m args below hf hfit hP hT
  obtain ⟨k, o, h1, h2, h3, ⟨⟨r, h', I', J', e1, e2, e3⟩, e4⟩, h5⟩ := hM p e ha hc hk s m args below hf hfit hP hT
  exact ⟨k, o, h1, h2, h3, ⟨⟨r, h', I', J', e1, hQ _ _ _ _ e2, e3⟩, e4⟩, h5⟩
def z_at : zL → Nat → Option Value
  | [], _ => none
  | (j, w) :: l, i => match Nat.beq j i with
    | true => some w
    | false => z_at l i
theorem z_at_mem : ∀ {ls : zL} {i : Nat} {v : Value}, z_at ls i = some v → (i, v) ∈ ls
  | (j, w) :: l, i, v, h => by
    unfold z_at at h
    cases hb : Nat.beq j i with
    | true =>
      rw [hb] at h
      have hj := Nat.eq_of_beq_eq_true hb
      cases h
      rw [hj]
      exact List.mem_cons_self
    | false =>
      rw [hb] at h
      exact List.mem_cons_of_mem _ (z_at_mem h)
theorem z_at_lc {G : zG} {la : Array Slot} {n : Nat} {ls : zL} {i : Nat} {v : Value} (hl : lv_has la n (z_lc G ls)) (h : z_at ls i = some v) : la[i]? = some (.val (z_cv G v)) :=
  hl.2.2 (i, z_cv G v) (List.mem_map.mpr ⟨(i, v), z_at_mem h, rfl⟩)
def z_ins (i : Nat) (v : Value) : zL → zL
  | [] => [(i, v)]
  | (j, w) :: l => match Nat.blt j i with
    | true => (j, w) :: z_ins i v l
    | false => (i, v) :: (j, w) :: l
theorem z_ins_mem {i : Nat} {v : Value} {q : Nat × Value} : ∀ {l : zL}, q ∈ z_ins i v l → q = (i, v) ∨ q ∈ l
  | [], h => Or.inl (List.mem_singleton.mp h)
  | (j, w) :: l, h => by
    unfold z_ins at h
    cases hb : Nat.blt j i with
    | true =>
      rw [hb] at h
      rcases List.mem_cons.mp h with h | h
      · exact Or.inr (by rw [h]; exact List.mem_cons_self)
      · rcases z_ins_mem h with h | h
        · exact Or.inl h
        · exact Or.inr (List.mem_cons_of_mem _ h)
    | false =>
      rw [hb] at h
      rcases List.mem_cons.mp h with h | h
      · exact Or.inl h
      · exact Or.inr h
/-- the locals, in the order of their numbers, with a value of one slot stored -/
def z_set (i : Nat) (v : Value) (ls : zL) : zL := z_ins i v (ls.filter (fun q => !(q.1 == i) && !(q.1 + 1 == i && q.2.category == 2)))
/-- the same with a long -/
def z_set2 (i : Nat) (v : Value) (ls : zL) : zL := z_ins i v (ls.filter (fun q => !(q.1 == i) && (!(q.1 == i + 1) && !(q.1 + 1 == i && q.2.category == 2))))
theorem z_lc_fil {G : zG} {p : Nat × Value → Bool} (hp : ∀ q, p (q.1, z_cv G q.2) = p q) : ∀ ls : zL, (z_lc G ls).filter p = z_lc G (ls.filter p)
  | [] => rfl
  | q :: ls => by
    show (List.filter p ((q.1, z_cv G q.2) :: z_lc G ls)) = _
    rw [List.filter_cons, List.filter_cons, z_lc_fil hp ls, hp q]
    cases p q <;> rfl
theorem z_lc_set {G : zG} {la : Array Slot} {n i : Nat} {v : Value} {ls : zL} {p : Nat × Value → Bool} (hp : ∀ q, p (q.1, z_cv G q.2) = p q) (h : lv_has la n ((i, z_cv G v) :: (z_lc G ls).filter p)) : lv_has la n (z_lc G (z_ins i v (ls.filter p))) := by
  refine ⟨h.1, h.2.1, fun q hq => h.2.2 q ?_⟩
  obtain ⟨q0, h0, rfl⟩ := List.mem_map.mp hq
  rcases z_ins_mem h0 with rfl | h1
  · exact List.mem_cons_self
  · rw [z_lc_fil hp]
    exact List.mem_cons_of_mem _ (List.mem_map.mpr ⟨q0, h1, rfl⟩)
