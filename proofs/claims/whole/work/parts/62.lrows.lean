/-! THE CLAIM OUT OF ONE WALK OF THE LAW'S BODY. Your part is whole_start (and what it stands on); all else here is the same for every law, but numbers. -/
def R_law : String := "OneCallLaw"
def lw_P (b : Addr) (xs : List Int32) (args : Array Value) (s : State) : Prop := args = #[.ref b] ∧ s.IntsAt b xs ∧ xs.length ≤ 2560 ∧ (Jvm.Cond.and given_1 narrow_1).before args s = true
def lw_Q (_ : Array Value) (s : State) (o : Outcome) (t : State) : Prop := o = .returned (some (.int 1)) ∧ Framed s o t [] 600000 7302250
def lw_Z (below : List Frame) (a : Array Value) (s : State) : State → Prop := fun t => ∃ o, t.status = .running ∧ Ended t below o ∧ lw_Q a s o t
/-- the law's own end, with 1 on the stack, nothing written that was there before, its room as the claim has it -/
theorem lw_ret {p : Program} {l : Launch} {e : Env} {s : State} {m : MethodId} {below : List Frame} {meth : Method} {c : Code} {b : Nat} (hx : p.tables.exec = Jvm.exec) (hb : c.code = code) (hr : meth.sig.returnType = ret) (hlocks : meth.locks = false) {pc : Nat} {H : Heap} {ls : Array Slot} (hdg : decode code pc = .ok (.ireturn, 1)) : W p l e room_1 s m #[Value.ref b] below meth c H [] 600000 7302250 (lw_Z below #[Value.ref b] s) (F0 m pc ls [.int 1]) := by
  intro T hT X
  obtain ⟨fs, hret, hrun, hended, hW, hframe⟩ := X.leave (v := some (.int 1)) (hlocks := hlocks) (fun h => by rw [hr] at h; cases h)
  have hmeth' : T.vm.method? m = some meth := X.method'
  refine ⟨T.setFrames fs, ?_, .returned (some (.int 1)), hrun, hended, rfl, ⟨_, rfl⟩, hW, hframe⟩
  jvm_step X.here [X.here.top, hx, hb, hdg, hmeth', hr, ret, narrow_b1]
  (try refine ⟨rfl, ?_⟩); (try refine ⟨rfl, ?_⟩)
  first | (intro acts; rw [hret _ acts rfl rfl rfl]) | rw [hret _ _ rfl rfl rfl]
  exact Steps.refl _
/-- what holds at the law's entry: the machine, the code, the tables' words (any of lw_tbl by 'hts w (by decide +kernel)'), the script of L ints xs at the cell b, what the Statement gives of the start (any of its parts by flat_of_before) -/
def lw_At (p : Program) (s : State) (m : MethodId) (meth : Method) (c : Code) (b L : Nat) (xs : Nat → Int32) : Prop :=
  p.tables.exec = Jvm.exec ∧ c.code = code ∧ meth.sig.returnType = ret ∧ c.maxLocals = 4 ∧ s.vm.findClass R_law = some m.cls ∧ (∀ w ∈ lw_tbl, w.before #[Value.ref b] s = true) ∧ va_X b L xs s s.heap ∧ b < s.heap.size ∧ meth.locks = false ∧ (Jvm.Cond.and given_1 narrow_1).before #[Value.ref b] s = true

/-! ROWS of the law's own frame: its local 0 is the script, at the address b0 -/
def z_W (b0 : Nat) (K : zK) (pc : Nat) (ls : zL) (st : List Value) (h : zH) (I : zI) (J : zJ) (kc ks : Nat) : Prop := match K with
  | ((p, l, e, R, s, m, args, below, meth, c), Qf, G, mc, ms) => ∀ (H : Heap) (locs : List Loc) (la : Array Slot), z_P G h I J H → va_S (z_A G) s.heap H locs → lv_has la c.maxLocals ((0, .ref b0) :: z_lc G ls) → kc ≤ mc → ks ≤ ms → W p l e R s m args below meth c H locs (mc - kc) (ms - ks) Qf (F0 m pc la (st.map (z_cv G)))
theorem z_tl {la : Array Slot} {n : Nat} {q : Nat × Value} {l : List (Nat × Value)} (h : lv_has la n (q :: l)) : lv_has la n l := ⟨h.1, h.2.1, fun q h9 => h.2.2 q (List.mem_cons_of_mem _ h9)⟩
theorem z_wset {b0 : Nat} {G : zG} {la : Array Slot} {n i : Nat} {v : Value} {ls : zL} {p : Nat × Value → Bool} (hp : ∀ q, p (q.1, z_cv G q.2) = p q) (h0 : p (0, .ref b0) = true) (h : lv_has la n ((i, z_cv G v) :: ((0, .ref b0) :: z_lc G ls).filter p)) : lv_has la n ((0, .ref b0) :: z_lc G (z_ins i v (ls.filter p))) := by
  rw [List.filter_cons, if_pos h0] at h
  have h1 : lv_has la n ((i, z_cv G v) :: (z_lc G ls).filter p) := ⟨h.1, h.2.1, fun q hq => h.2.2 q (by
    rcases List.mem_cons.mp hq with z | z
    · rw [z]; exact List.mem_cons_self
    · exact List.mem_cons_of_mem _ (List.mem_cons_of_mem _ z))⟩
  have h2 := z_lc_set hp h1
  exact ⟨h.1, h.2.1, fun q hq => by
    rcases List.mem_cons.mp hq with z | z
    · rw [z]; exact h.2.2 _ (List.mem_cons_of_mem _ List.mem_cons_self)
    · exact h2.2.2 q z⟩
def z_Sc (b0 L : Nat) (xs : Nat → Int32) (K : zK) : Prop := match K with
  | ((_, _, _, _, s, _, _, _, _, _), _, G, _, _) => va_X b0 L xs s s.heap ∧ b0 < s.heap.size ∧ ¬ z_A G b0
def z_XL (b0 : Nat) (K : zK) : Prop := match K with
  | ((_, _, _, R, s, _, args, below, meth, c), Qf, G, mc, ms) => R = room_1 ∧ args = #[.ref b0] ∧ Qf = lw_Z below #[.ref b0] s ∧ G.2.2.2 = s.heap.size ∧ mc = 600000 ∧ ms = 7302250
section ZWR
variable {b0 : Nat} {y : MethodName} {cc : ByteArray} {nL d : Nat} {ret : Option FieldType} {K : zK} {pc : Nat} {ls : zL} {st : List Value} {h : zH} {I : zI} {J : zJ} {kc ks : Nat}
theorem u_iconst (E : z_E y cc nL ret d K) {n : Int} {v : Int32} (hd : decode cc pc = .ok (.iconst n, 1)) (hv : Int32.ofInt n = v) (k : z_W b0 K (pc + 1) ls (.int v :: st) h I J kc ks) : z_W b0 K pc ls (st) h I J kc ks := by
  obtain ⟨⟨p, l, e, R, s, m, args, below, meth, c⟩, Qf, G, mc, ms⟩ := K
  obtain ⟨hx, hb, hml, hr, hlocks, hin, hown, hts, hK, hSt, hbase, ht0, hRc, hRs, hfr, hlo⟩ := E
  intro H locs la hP hS hl hkc hks
  exact lv_iconst hx hb hd hv (k H locs la hP hS hl hkc hks)
theorem u_bipush (E : z_E y cc nL ret d K) {n : Int} {v : Int32} (hd : decode cc pc = .ok (.bipush n, 2)) (hv : (Int8.ofInt n).toInt32 = v) (k : z_W b0 K (pc + 2) ls (.int v :: st) h I J kc ks) : z_W b0 K pc ls (st) h I J kc ks := by
  obtain ⟨⟨p, l, e, R, s, m, args, below, meth, c⟩, Qf, G, mc, ms⟩ := K
  obtain ⟨hx, hb, hml, hr, hlocks, hin, hown, hts, hK, hSt, hbase, ht0, hRc, hRs, hfr, hlo⟩ := E
  intro H locs la hP hS hl hkc hks
  exact lv_bipush hx hb hd hv (k H locs la hP hS hl hkc hks)
theorem u_ldc2_w (E : z_E y cc nL ret d K) {index : Nat} {v : Int64} (hd : decode cc pc = .ok (.ldc2_w index, 3)) (hc : Cond.constantLong y.cls index v ∈ z_tbl) (k : z_W b0 K (pc + 3) ls (.long v :: st) h I J kc ks) : z_W b0 K pc ls st h I J kc ks := by
  obtain ⟨⟨p, l, e, R, s, m, args, below, meth, c⟩, Qf, G, mc, ms⟩ := K
  obtain ⟨hx, hb, hml, hr, hlocks, hin, hown, hts, hK, hSt, hbase, ht0, hRc, hRs, hfr, hlo⟩ := E
  intro H locs la hP hS hl hkc hks
  exact lv_ldc2 hx hb hown (hts _ hc) hd (k H locs la hP hS hl hkc hks)
theorem u_iload_n (E : z_E y cc nL ret d K) {i : Fin 4} {x : Int32} (hd : decode cc pc = .ok (.iload_n i, 1)) (hl : z_at ls i = some (.int x)) (k : z_W b0 K (pc + 1) ls (.int x :: st) h I J kc ks) : z_W b0 K pc ls st h I J kc ks := by
  obtain ⟨⟨p, l, e, R, s, m, args, below, meth, c⟩, Qf, G, mc, ms⟩ := K
  obtain ⟨hx, hb, hml, hr, hlocks, hin, hown, hts, hK, hSt, hbase, ht0, hRc, hRs, hfr, hlo⟩ := E
  intro H locs la hP hS hla hkc hks
  exact lv_iload_n hx hb hd rfl (z_at_lc (z_tl hla) hl) (k H locs la hP hS hla hkc hks)
theorem u_aload_n (E : z_E y cc nL ret d K) {i : Fin 4} {x : Nat} (hd : decode cc pc = .ok (.aload_n i, 1)) (hl : z_at ls i = some (.ref x)) (k : z_W b0 K (pc + 1) ls (.ref x :: st) h I J kc ks) : z_W b0 K pc ls st h I J kc ks := by
  obtain ⟨⟨p, l, e, R, s, m, args, below, meth, c⟩, Qf, G, mc, ms⟩ := K
  obtain ⟨hx, hb, hml, hr, hlocks, hin, hown, hts, hK, hSt, hbase, ht0, hRc, hRs, hfr, hlo⟩ := E
  intro H locs la hP hS hla hkc hks
  exact lv_aload_n hx hb hd rfl (z_at_lc (z_tl hla) hl) (k H locs la hP hS hla hkc hks)
theorem u_istore_n (E : z_E y cc nL ret d K) {i : Fin 4} {x : Int32} (hd : decode cc pc = .ok (.istore_n i, 1)) (hn : (i : Nat) < nL) (hi0 : 0 < (i : Nat)) (k : z_W b0 K (pc + 1) (z_set i (.int x) ls) st h I J kc ks) : z_W b0 K pc ls (.int x :: st) h I J kc ks := by
  obtain ⟨⟨p, l, e, R, s, m, args, below, meth, c⟩, Qf, G, mc, ms⟩ := K
  obtain ⟨hx, hb, hml, hr, hlocks, hin, hown, hts, hK, hSt, hbase, ht0, hRc, hRs, hfr, hlo⟩ := E
  intro H locs la hP hS hla hkc hks
  subst hml
  exact lv_istore_n hx hb hd rfl hla hn rfl (fun la2 hl2 => k H locs la2 hP hS (z_wset (v := .int x) (fun q => by rw [z_cv_cat]) (by have h9 : (0 : Nat) ≠ (i : Nat) := (by omega); simp [h9, Value.category]) hl2) hkc hks)
theorem u_astore_n (E : z_E y cc nL ret d K) {i : Fin 4} {x : Nat} (hd : decode cc pc = .ok (.astore_n i, 1)) (hn : (i : Nat) < nL) (hi0 : 0 < (i : Nat)) (k : z_W b0 K (pc + 1) (z_set i (.ref x) ls) st h I J kc ks) : z_W b0 K pc ls (.ref x :: st) h I J kc ks := by
  obtain ⟨⟨p, l, e, R, s, m, args, below, meth, c⟩, Qf, G, mc, ms⟩ := K
  obtain ⟨hx, hb, hml, hr, hlocks, hin, hown, hts, hK, hSt, hbase, ht0, hRc, hRs, hfr, hlo⟩ := E
  intro H locs la hP hS hla hkc hks
  subst hml
  exact lv_astore_n hx hb hd rfl hla hn rfl (fun la2 hl2 => k H locs la2 hP hS (z_wset (v := .ref x) (fun q => by rw [z_cv_cat]) (by have h9 : (0 : Nat) ≠ (i : Nat) := (by omega); simp [h9, Value.category]) hl2) hkc hks)
theorem u_iinc (E : z_E y cc nL ret d K) {i : Nat} {n : Int} {x v : Int32} (hd : decode cc pc = .ok (.iinc i n, 3)) (hg : z_at ls i = some (.int x)) (hv : x + Int32.ofInt n = v) (hn : i < nL) (hi0 : 0 < i) (k : z_W b0 K (pc + 3) (z_set i (.int v) ls) st h I J kc ks) : z_W b0 K pc ls st h I J kc ks := by
  obtain ⟨⟨p, l, e, R, s, m, args, below, meth, c⟩, Qf, G, mc, ms⟩ := K
  obtain ⟨hx, hb, hml, hr, hlocks, hin, hown, hts, hK, hSt, hbase, ht0, hRc, hRs, hfr, hlo⟩ := E
  intro H locs la hP hS hla hkc hks
  subst hml
  obtain ⟨j, hj⟩ := List.getElem?_of_mem (List.mem_map.mpr ⟨(i, .int x), z_at_mem hg, rfl⟩ : ((i, z_cv G (.int x)) ∈ z_lc G ls))
  exact lv_iinc (k := j + 1) (x := x) (v := v) hx hb hd hla (by rw [List.getElem?_cons_succ]; exact hj) hv hn rfl (fun la2 hl2 => k H locs la2 hP hS (z_wset (v := .int v) (fun q => by rw [z_cv_cat]) (by have h9 : (0 : Nat) ≠ i := (by omega); simp [h9, Value.category]) hl2) hkc hks)
theorem u_iadd (E : z_E y cc nL ret d K) {x z : Int32} (hd : decode cc pc = .ok (.iadd, 1))  (k : z_W b0 K (pc + 1) ls (.int (x + z) :: st) h I J kc ks) : z_W b0 K pc ls (.int z :: .int x :: st) h I J kc ks := by
  obtain ⟨⟨p, l, e, R, s, m, args, below, meth, c⟩, Qf, G, mc, ms⟩ := K
  obtain ⟨hx, hb, hml, hr, hlocks, hin, hown, hts, hK, hSt, hbase, ht0, hRc, hRs, hfr, hlo⟩ := E
  intro H locs la hP hS hl hkc hks
  exact lv_iadd hx hb hd  (k H locs la hP hS hl hkc hks)
theorem u_isub (E : z_E y cc nL ret d K) {x z : Int32} (hd : decode cc pc = .ok (.isub, 1))  (k : z_W b0 K (pc + 1) ls (.int (x - z) :: st) h I J kc ks) : z_W b0 K pc ls (.int z :: .int x :: st) h I J kc ks := by
  obtain ⟨⟨p, l, e, R, s, m, args, below, meth, c⟩, Qf, G, mc, ms⟩ := K
  obtain ⟨hx, hb, hml, hr, hlocks, hin, hown, hts, hK, hSt, hbase, ht0, hRc, hRs, hfr, hlo⟩ := E
  intro H locs la hP hS hl hkc hks
  exact lv_isub hx hb hd  (k H locs la hP hS hl hkc hks)
theorem u_iand (E : z_E y cc nL ret d K) {x z : Int32} (hd : decode cc pc = .ok (.iand, 1))  (k : z_W b0 K (pc + 1) ls (.int (x &&& z) :: st) h I J kc ks) : z_W b0 K pc ls (.int z :: .int x :: st) h I J kc ks := by
  obtain ⟨⟨p, l, e, R, s, m, args, below, meth, c⟩, Qf, G, mc, ms⟩ := K
  obtain ⟨hx, hb, hml, hr, hlocks, hin, hown, hts, hK, hSt, hbase, ht0, hRc, hRs, hfr, hlo⟩ := E
  intro H locs la hP hS hl hkc hks
  exact lv_iand hx hb hd  (k H locs la hP hS hl hkc hks)
theorem u_lshl (E : z_E y cc nL ret d K) {x : Int64} {z : Int32} (hd : decode cc pc = .ok (.lshl, 1))  (k : z_W b0 K (pc + 1) ls (.long (x <<< (z.toInt64 &&& 63)) :: st) h I J kc ks) : z_W b0 K pc ls (.int z :: .long x :: st) h I J kc ks := by
  obtain ⟨⟨p, l, e, R, s, m, args, below, meth, c⟩, Qf, G, mc, ms⟩ := K
  obtain ⟨hx, hb, hml, hr, hlocks, hin, hown, hts, hK, hSt, hbase, ht0, hRc, hRs, hfr, hlo⟩ := E
  intro H locs la hP hS hl hkc hks
  exact lv_lshl hx hb hd rfl (k H locs la hP hS hl hkc hks)
theorem u_i2l (E : z_E y cc nL ret d K) {x : Int32} (hd : decode cc pc = .ok (.i2l, 1))  (k : z_W b0 K (pc + 1) ls (.long x.toInt64 :: st) h I J kc ks) : z_W b0 K pc ls (.int x :: st) h I J kc ks := by
  obtain ⟨⟨p, l, e, R, s, m, args, below, meth, c⟩, Qf, G, mc, ms⟩ := K
  obtain ⟨hx, hb, hml, hr, hlocks, hin, hown, hts, hK, hSt, hbase, ht0, hRc, hRs, hfr, hlo⟩ := E
  intro H locs la hP hS hl hkc hks
  exact lv_i2l hx hb hd rfl (k H locs la hP hS hl hkc hks)
theorem u_land (E : z_E y cc nL ret d K) {x z : Int64} (hd : decode cc pc = .ok (.land, 1))  (k : z_W b0 K (pc + 1) ls (.long (x &&& z) :: st) h I J kc ks) : z_W b0 K pc ls (.long z :: .long x :: st) h I J kc ks := by
  obtain ⟨⟨p, l, e, R, s, m, args, below, meth, c⟩, Qf, G, mc, ms⟩ := K
  obtain ⟨hx, hb, hml, hr, hlocks, hin, hown, hts, hK, hSt, hbase, ht0, hRc, hRs, hfr, hlo⟩ := E
  intro H locs la hP hS hl hkc hks
  exact lv_land hx hb hd  (k H locs la hP hS hl hkc hks)
theorem u_lor (E : z_E y cc nL ret d K) {x z : Int64} (hd : decode cc pc = .ok (.lor, 1))  (k : z_W b0 K (pc + 1) ls (.long (x ||| z) :: st) h I J kc ks) : z_W b0 K pc ls (.long z :: .long x :: st) h I J kc ks := by
  obtain ⟨⟨p, l, e, R, s, m, args, below, meth, c⟩, Qf, G, mc, ms⟩ := K
  obtain ⟨hx, hb, hml, hr, hlocks, hin, hown, hts, hK, hSt, hbase, ht0, hRc, hRs, hfr, hlo⟩ := E
  intro H locs la hP hS hl hkc hks
  exact lv_lor hx hb hd  (k H locs la hP hS hl hkc hks)
theorem u_lcmp (E : z_E y cc nL ret d K) {x z : Int64} (hd : decode cc pc = .ok (.lcmp, 1))  (k : z_W b0 K (pc + 1) ls (.int (lg_cmp x z) :: st) h I J kc ks) : z_W b0 K pc ls (.long z :: .long x :: st) h I J kc ks := by
  obtain ⟨⟨p, l, e, R, s, m, args, below, meth, c⟩, Qf, G, mc, ms⟩ := K
  obtain ⟨hx, hb, hml, hr, hlocks, hin, hown, hts, hK, hSt, hbase, ht0, hRc, hRs, hfr, hlo⟩ := E
  intro H locs la hP hS hl hkc hks
  exact W.lcmp hx hb hd  (k H locs la hP hS hl hkc hks)
theorem u_dup (E : z_E y cc nL ret d K) {v0 : Value} (hd : decode cc pc = .ok (.dup, 1)) (hc0 : v0.category = 1) (k : z_W b0 K (pc + 1) ls (v0 :: v0 :: st) h I J kc ks) : z_W b0 K pc ls (v0 :: st) h I J kc ks := by
  obtain ⟨⟨p, l, e, R, s, m, args, below, meth, c⟩, Qf, G, mc, ms⟩ := K
  obtain ⟨hx, hb, hml, hr, hlocks, hin, hown, hts, hK, hSt, hbase, ht0, hRc, hRs, hfr, hlo⟩ := E
  intro H locs la hP hS hl hkc hks
  exact lv_dup hx hb hd (by rw [z_cv_cat]; exact hc0) (k H locs la hP hS hl hkc hks)
theorem u_icmp_eq (E : z_E y cc nL ret d K) {x z : Int32} {off : Int} {tgt : Nat} (hd : decode cc pc = .ok (.if_icmp .eq off, 3)) (ht : (pc : Int) + off = (tgt : Int)) (kt : x = z → z_W b0 K tgt ls st h I J kc ks) (kf : ¬ x = z → z_W b0 K (pc + 3) ls st h I J kc ks) : z_W b0 K pc ls (.int z :: .int x :: st) h I J kc ks := by
  obtain ⟨⟨p, l, e, R, s, m, args, below, meth, c⟩, Qf, G, mc, ms⟩ := K
  obtain ⟨hx, hb, hml, hr, hlocks, hin, hown, hts, hK, hSt, hbase, ht0, hRc, hRs, hfr, hlo⟩ := E
  intro H locs la hP hS hl hkc hks
  exact lv_icmp_eq hx hb hd ht (fun q => kt q H locs la hP hS hl hkc hks) (fun q => kf q H locs la hP hS hl hkc hks)
theorem u_if_eq (E : z_E y cc nL ret d K) {x : Int32} {off : Int} {tgt : Nat} (hd : decode cc pc = .ok (.ifCond .eq off, 3)) (ht : (pc : Int) + off = (tgt : Int)) (kt : x = 0 → z_W b0 K tgt ls st h I J kc ks) (kf : ¬ x = 0 → z_W b0 K (pc + 3) ls st h I J kc ks) : z_W b0 K pc ls (.int x :: st) h I J kc ks := by
  obtain ⟨⟨p, l, e, R, s, m, args, below, meth, c⟩, Qf, G, mc, ms⟩ := K
  obtain ⟨hx, hb, hml, hr, hlocks, hin, hown, hts, hK, hSt, hbase, ht0, hRc, hRs, hfr, hlo⟩ := E
  intro H locs la hP hS hl hkc hks
  exact lv_if_eq hx hb hd ht (fun q => kt q H locs la hP hS hl hkc hks) (fun q => kf q H locs la hP hS hl hkc hks)
theorem u_icmp_gt (E : z_E y cc nL ret d K) {x z : Int32} {off : Int} {tgt : Nat} (hd : decode cc pc = .ok (.if_icmp .gt off, 3)) (ht : (pc : Int) + off = (tgt : Int)) (kt : z < x → z_W b0 K tgt ls st h I J kc ks) (kf : ¬ z < x → z_W b0 K (pc + 3) ls st h I J kc ks) : z_W b0 K pc ls (.int z :: .int x :: st) h I J kc ks := by
  obtain ⟨⟨p, l, e, R, s, m, args, below, meth, c⟩, Qf, G, mc, ms⟩ := K
  obtain ⟨hx, hb, hml, hr, hlocks, hin, hown, hts, hK, hSt, hbase, ht0, hRc, hRs, hfr, hlo⟩ := E
  intro H locs la hP hS hl hkc hks
  exact lv_icmp_gt hx hb hd ht (fun q => kt q H locs la hP hS hl hkc hks) (fun q => kf q H locs la hP hS hl hkc hks)
theorem u_goto (E : z_E y cc nL ret d K) {off : Int} {tgt : Nat} (hd : decode cc pc = .ok (.goto off, 3)) (ht : (pc : Int) + off = (tgt : Int)) (k : z_W b0 K tgt ls st h I J kc ks) : z_W b0 K pc ls st h I J kc ks := by
  obtain ⟨⟨p, l, e, R, s, m, args, below, meth, c⟩, Qf, G, mc, ms⟩ := K
  obtain ⟨hx, hb, hml, hr, hlocks, hin, hown, hts, hK, hSt, hbase, ht0, hRc, hRs, hfr, hlo⟩ := E
  intro H locs la hP hS hl hkc hks
  exact lv_goto hx hb hd ht (k H locs la hP hS hl hkc hks)
theorem u_tableOut (E : z_E y cc nL ret d K) {dflt lo hi : Int} {offs : Array Int} {len : Nat} {x : Int32} {tgt : Nat} (hd : decode cc pc = .ok (.tableswitch dflt lo hi offs, len)) (hx9 : x.toInt < lo ∨ hi < x.toInt) (ht : (pc : Int) + dflt = (tgt : Int)) (k : z_W b0 K tgt ls st h I J kc ks) : z_W b0 K pc ls (.int x :: st) h I J kc ks := by
  obtain ⟨⟨p, l, e, R, s, m, args, below, meth, c⟩, Qf, G, mc, ms⟩ := K
  obtain ⟨hx, hb, hml, hr, hlocks, hin, hown, hts, hK, hSt, hbase, ht0, hRc, hRs, hfr, hlo⟩ := E
  intro H locs la hP hS hl hkc hks
  exact lv_tableOut hx hb hd hx9 ht (k H locs la hP hS hl hkc hks)
theorem u_tableIn (E : z_E y cc nL ret d K) {dflt lo hi : Int} {offs : Array Int} {len : Nat} {x : Int32} {off : Int} {tgt : Nat} (hd : decode cc pc = .ok (.tableswitch dflt lo hi offs, len)) (h1 : ¬ x.toInt < lo) (h2 : ¬ hi < x.toInt) (ho : offs[(x.toInt - lo).toNat]? = some off) (ht : (pc : Int) + off = (tgt : Int)) (k : z_W b0 K tgt ls st h I J kc ks) : z_W b0 K pc ls (.int x :: st) h I J kc ks := by
  obtain ⟨⟨p, l, e, R, s, m, args, below, meth, c⟩, Qf, G, mc, ms⟩ := K
  obtain ⟨hx, hb, hml, hr, hlocks, hin, hown, hts, hK, hSt, hbase, ht0, hRc, hRs, hfr, hlo⟩ := E
  intro H locs la hP hS hl hkc hks
  exact lv_tableIn hx hb hd h1 h2 ho ht (k H locs la hP hS hl hkc hks)
theorem u_new (E : z_E y cc nL ret d K) {idx ci : Nat} (hd : decode cc pc = .ok (.new idx, 3)) (hci : ci < 6) (hc : Cond.classLink y.cls idx (z_R ci) ∈ z_tbl) (hi : Cond.instantiable (z_R ci) (z_N ci) ∈ z_tbl) (hini : Cond.initialized (z_R ci) ∈ z_tbl) (hty : ∀ j, j < z_N ci → (z_ty ci j = .int ∨ z_ty ci j = .long ∨ z_ty ci j = .boolean ∨ z_kd (z_ty ci j) = 2)) (k : z_W b0 K (pc + 3) ls (.ref (h.1 + 1) :: st) (z_new h ci 0) (z_zI h I) (z_zJ h J) kc ks) : z_W b0 K pc ls st h I J (kc + 1) (ks + z_N ci) := by
  obtain ⟨⟨p, l, e, R, s, m, args, below, meth, c⟩, Qf, G, mc, ms⟩ := K
  obtain ⟨hx, hb, hml, hr, hlocks, hin, hown, hts, hK, hSt, hbase, ht0, hRc, hRs, hfr, hlo⟩ := E
  intro H locs la hP hS hl hkc hks
  have hKn := hK.1 ci _ (z_cl hci)
  refine W.newcK (h := G.2.2.2 + h.1) hx hb hown (hts _ hc) (hts _ hi) (hts _ hini) rfl hd (by rw [hRc]; omega) (by rw [hRs]; omega) hKn.2.1 hP.2.1 fun H1 kC hkC e1 z1 o1 => ?_
  have hc1 : mc - (kc + 1) + 1 = mc - kc := by omega
  have hs1 : ms - (ks + z_N ci) + z_N ci = ms - ks := by omega
  rw [hc1, hs1]
  refine k H1 locs la (hP.new (by omega) (z_cell_o (ci := ci) (by simp [z_new]) hci) ?_ z1 o1) (z_put_S hS hP.2.1 z1 o1) hl (by omega) (by omega)
  refine ⟨_, z_cl hci, (u_born (z_ty ci) hts (z_uin hci) hKn hkC e1 (z_tyok hci)).to fun j hj => ?_⟩
  show defaultValue (z_ty ci j) = vp_V _ j
  unfold vp_V
  rw [List.getD_eq_getElem?_getD, z_fs_get hj]
  exact z_def (hty j hj)
theorem u_callV (E : z_E y cc nL ret (d + 1) K) {idx np ci a c1 s1 : Nat} {y2 : MethodName} {cc2 : ByteArray} {nL2 : Nat} {ret2 : Option FieldType} {As stk : List Value} {Q2 : zQ} (hd : decode cc pc = .ok (.invokevirtual idx, 3)) (hlk : Cond.methodLink y.cls idx y2 ∈ z_tbl) (hY : z_YV y2 cc2 nL2 ret2 np ci) (hM : z_C y2 cc2 nL2 ret2 d (.ref a :: As) h I J c1 s1 Q2) (hT : (h.2.1 a).1 = ci) (hn : As.length = np) (hst : stk = As.reverse ++ .ref a :: st) (hw : (st.map fun v => v.category).sum ≤ 8)
    (k : ∀ (r : Option Value) (h' : zH) (I' : zI) (J' : zJ), Q2 r h' I' J' → z_W b0 K (pc + 3) ls (r.toList ++ st) h' I' J' kc ks) : z_W b0 K pc ls stk h I J (kc + c1) (ks + s1) := by
  obtain ⟨⟨p, l, e, R, s, m, args, below, meth, c⟩, Qf, G, mc, ms⟩ := K
  obtain ⟨hx, hb, hml, hr, hlocks, hin, hown, hts, hK, hSt, hbase, ht0, hRc, hRs, hfr, hlo⟩ := E
  intro H locs la hP hS hl hkc hks
  obtain ⟨y1, y3, y4, y5, y6, y7, hci, hcn⟩ := hY
  obtain ⟨k0, rfl, hk0, had, hget⟩ := z_place (a := a) hP (by rw [hT]; omega)
  rw [z_cell_o hT hci] at hget
  have hrec : ∃ cell : Cell, H[z_ad G (k0 + 1)]? = some cell ∧ cell.vm.isStatics = false ∧ s.vm.findClass y2.cls = some cell.cls := by
    rw [← hcn]
    exact va_recv hK hP.1 (z_cl hci) hget
  have hG : GoodIn z_tbl (wsV y.cls idx y2.cls y2 (z_wd y2 cc2 nL2 ret2)) := z_gin (fun w hw => by
    rcases List.mem_append.mp hw with h | h
    · simp only [List.mem_cons, List.not_mem_nil, or_false] at h
      rcases h with rfl | rfl | rfl | rfl
      · exact hlk
      · exact y3
      · exact y4
      · exact y5
    · exact z_wd_in y1 w h)
  refine z_call (Q := Q2) (va_runV (nL := c.maxLocals) (As := As.map (z_cv G)) (rest := st.map (z_cv G)) (Ts := z_tbl) (C := y2.cls) (n := np) (bytes := cc2) (maxL := nL2) (ret := ret2) ⟨hx, hb, rfl, hown, hts⟩ (hM l G) (cwV np hts hG rfl rfl rfl ⟨rfl, y6⟩ ⟨by show d + 1 ≤ _; exact hfr, by show 8 + (nL2 + 11) + 64 * d ≤ _; omega⟩) ⟨z_blind _ G h I J, hrec, fun U hU hW => ⟨rfl, z_rep_at hP hS hK hSt ht0 hU hW⟩⟩ rfl (by rw [List.length_map]; exact hn) hl.1 (by rw [hst]; simp [z_cv]) (by show 2 * 0 + _ ≤ 8; rw [z_catsum]; omega) hd ⟨by rw [hRc]; omega, by rw [hRs]; omega⟩) hS fun r h' I' J' H1 locs1 hq hP1 hS1 => ?_
  have e1 : mc - (kc + c1) + c1 = mc - kc := by omega
  have e2 : ms - (ks + s1) + s1 = ms - ks := by omega
  rw [e1, e2]
  have := k r h' I' J' hq H1 locs1 la hP1 hS1 hl (by omega) (by omega)
  cases r with
  | none => exact this
  | some v => exact this
theorem u_callI (E : z_E y cc nL ret (d + 1) K) {idx np a c1 s1 : Nat} {y2 : MethodName} {cc2 : ByteArray} {nL2 : Nat} {As stk : List Value} {Q2 : zQ} (hd : decode cc pc = .ok (.invokespecial idx, 3)) (hlk : Cond.methodLink y.cls idx y2 ∈ z_tbl) (hY : z_YI y2 cc2 nL2 np) (hM : z_C y2 cc2 nL2 none d (.ref a :: As) h I J c1 s1 Q2) (hn : As.length = np) (hst : stk = As.reverse ++ .ref a :: st) (hw : (st.map fun v => v.category).sum ≤ 8)
    (k : ∀ (r : Option Value) (h' : zH) (I' : zI) (J' : zJ), Q2 r h' I' J' → z_W b0 K (pc + 3) ls (r.toList ++ st) h' I' J' kc ks) : z_W b0 K pc ls stk h I J (kc + c1) (ks + s1) := by
  obtain ⟨⟨p, l, e, R, s, m, args, below, meth, c⟩, Qf, G, mc, ms⟩ := K
  obtain ⟨hx, hb, hml, hr, hlocks, hin, hown, hts, hK, hSt, hbase, ht0, hRc, hRs, hfr, hlo⟩ := E
  intro H locs la hP hS hl hkc hks
  obtain ⟨y1, y3, y5, y8, y6, y7⟩ := hY
  refine z_call (Q := Q2) (va_runI (nL := c.maxLocals) (b := z_ad G a) (As := As.map (z_cv G)) (rest := st.map (z_cv G)) (Ts := z_tbl) (n := np) (bytes := cc2) (maxL := nL2) ⟨hx, hb, rfl, hown, hts⟩ (hM l G) (cwI np hts (z_gin (z_wd_in y1)) rfl rfl rfl (hts _ y5) (hts _ hlk) (hts _ y3) y8 y6 ⟨by show d + 1 ≤ _; exact hfr, by show 8 + (nL2 + 11) + 64 * d ≤ _; omega⟩) ⟨z_blind _ G h I J, fun U hU hW => ⟨rfl, z_rep_at hP hS hK hSt ht0 hU hW⟩⟩ rfl (by rw [List.length_map]; exact hn) hl.1 (by rw [hst]; simp [z_cv]) (by show 2 * 0 + _ ≤ 8; rw [z_catsum]; omega) hd ⟨by rw [hRc]; omega, by rw [hRs]; omega⟩) hS fun r h' I' J' H1 locs1 hq hP1 hS1 => ?_
  have e1 : mc - (kc + c1) + c1 = mc - kc := by omega
  have e2 : ms - (ks + s1) + s1 = ms - ks := by omega
  rw [e1, e2]
  have := k r h' I' J' hq H1 locs1 la hP1 hS1 hl (by omega) (by omega)
  cases r with
  | none => exact this
  | some v => exact this
theorem u_top {x x2 : Int32} (e : x = x2) (k : z_W b0 K pc ls (.int x2 :: st) h I J kc ks) : z_W b0 K pc ls (.int x :: st) h I J kc ks := e ▸ k
theorem u_ls {ls2 : zL} (hq : ∀ q ∈ ls2, z_at ls q.1 = some q.2) (k : z_W b0 K pc ls2 st h I J kc ks) : z_W b0 K pc ls st h I J kc ks := by
  obtain ⟨⟨p, l, e, R, s, m, args, below, meth, c⟩, Qf, G, mc, ms⟩ := K
  intro H locs la hP hS hl hkc hks
  refine k H locs la hP hS ⟨hl.1, hl.2.1, fun q h9 => ?_⟩ hkc hks
  rcases List.mem_cons.mp h9 with z | z
  · rw [z]; exact hl.2.2 _ List.mem_cons_self
  · obtain ⟨q0, h0, rfl⟩ := List.mem_map.mp z
    exact z_at_lc (z_tl hl) (hq q0 h0)
theorem u_wide {kc2 ks2 : Nat} (h1 : kc2 ≤ kc) (h2 : ks2 ≤ ks) (k : z_W b0 K pc ls st h I J kc2 ks2) : z_W b0 K pc ls st h I J kc ks := by
  obtain ⟨⟨p, l, e, R, s, m, args, below, meth, c⟩, Qf, G, mc, ms⟩ := K
  intro H locs la hP hS hl hkc hks
  exact W.widen (k := mc - kc2) (n := ms - ks2) (by omega) (by omega) (k H locs la hP hS hl (by omega) (by omega))
theorem u_st {h2 : zH} {I2 : zI} {J2 : zJ} (e1 : h = h2) (e2 : I = I2) (e3 : J = J2) (k : z_W b0 K pc ls st h2 I2 J2 kc ks) : z_W b0 K pc ls st h I J kc ks := by
  subst e1 e2 e3
  exact k
theorem u_len (E : z_E y cc nL ret d K) {L : Nat} {xs : Nat → Int32} (S : z_Sc b0 L xs K) (hd0 : decode cc pc = .ok (.aload_n 0, 1)) (hd1 : decode cc (pc + 1) = .ok (.arraylength, 1)) (k : z_W b0 K (pc + 1 + 1) ls (.int (nI L) :: st) h I J kc ks) : z_W b0 K pc ls st h I J kc ks := by
  obtain ⟨⟨p, l, e, R, s, m, args, below, meth, c⟩, Qf, G, mc, ms⟩ := K
  obtain ⟨hx, hb, hml, hr, hlocks, hin, hown, hts, hK, hSt, hbase, ht0, hRc, hRs, hfr, hlo⟩ := E
  intro H locs la hP hS hla hkc hks
  refine lv_aload_n hx hb hd0 rfl (hla.2.2 (0, .ref b0) List.mem_cons_self) ?_
  exact va_slen hx hb S.1 S.2.1 S.2.2 hS hd1 (k H locs la hP hS hla hkc hks)
theorem u_op (E : z_E y cc nL ret d K) {L : Nat} {xs : Nat → Int32} (S : z_Sc b0 L xs K) {i : Nat} (hL : L < 2 ^ 31) (hi : i < L) (hd0 : decode cc pc = .ok (.aload_n 0, 1)) (hd1 : decode cc (pc + 1) = .ok (.iload_n 3, 1)) (hd2 : decode cc (pc + 1 + 1) = .ok (.iaload, 1)) (hl : z_at ls 3 = some (.int (nI i))) (k : z_W b0 K (pc + 1 + 1 + 1) ls (.int (xs i) :: st) h I J kc ks) : z_W b0 K pc ls st h I J kc ks := by
  obtain ⟨⟨p, l, e, R, s, m, args, below, meth, c⟩, Qf, G, mc, ms⟩ := K
  obtain ⟨hx, hb, hml, hr, hlocks, hin, hown, hts, hK, hSt, hbase, ht0, hRc, hRs, hfr, hlo⟩ := E
  intro H locs la hP hS hla hkc hks
  refine lv_aload_n hx hb hd0 rfl (hla.2.2 (0, .ref b0) List.mem_cons_self) ?_
  refine lv_iload_n hx hb hd1 rfl (z_at_lc (z_tl hla) hl) ?_
  refine va_sld hx hb S.1 S.2.1 S.2.2 hS (z_ix rfl hi hL).1 hd2 ?_
  rw [(z_ix (i := nI i) rfl hi hL).2]
  exact k H locs la hP hS hla hkc hks
theorem u_arg (E : z_E y cc nL ret d K) {L : Nat} {xs : Nat → Int32} (S : z_Sc b0 L xs K) {i j : Nat} (hL : L < 2 ^ 31) (hi : i + j < L) {n : Int} (hn : Int32.ofInt n = nI j) (hd0 : decode cc pc = .ok (.aload_n 0, 1)) (hd1 : decode cc (pc + 1) = .ok (.iload_n 3, 1)) (hd2 : decode cc (pc + 1 + 1) = .ok (.iconst n, 1)) (hd3 : decode cc (pc + 1 + 1 + 1) = .ok (.iadd, 1)) (hd4 : decode cc (pc + 1 + 1 + 1 + 1) = .ok (.iaload, 1)) (hl : z_at ls 3 = some (.int (nI i))) (k : z_W b0 K (pc + 1 + 1 + 1 + 1 + 1) ls (.int (xs (i + j)) :: st) h I J kc ks) : z_W b0 K pc ls st h I J kc ks := by
  obtain ⟨⟨p, l, e, R, s, m, args, below, meth, c⟩, Qf, G, mc, ms⟩ := K
  obtain ⟨hx, hb, hml, hr, hlocks, hin, hown, hts, hK, hSt, hbase, ht0, hRc, hRs, hfr, hlo⟩ := E
  intro H locs la hP hS hla hkc hks
  refine lv_aload_n hx hb hd0 rfl (hla.2.2 (0, .ref b0) List.mem_cons_self) ?_
  refine lv_iload_n hx hb hd1 rfl (z_at_lc (z_tl hla) hl) ?_
  refine lv_iconst hx hb hd2 hn ?_
  refine lv_iadd hx hb hd3 ?_
  rw [nI_add]
  refine va_sld hx hb S.1 S.2.1 S.2.2 hS (z_ix rfl hi hL).1 hd4 ?_
  rw [(z_ix (i := nI (i + j)) rfl hi hL).2]
  exact k H locs la hP hS hla hkc hks
theorem u_end (E : z_E y code 4 (some .boolean) d K) (X : z_XL b0 K) (hd : decode code pc = .ok (.ireturn, 1)) : z_W b0 K pc ls [.int 1] h I J kc ks := by
  obtain ⟨⟨p, l, e, R, s, m, args, below, meth, c⟩, Qf, G, mc, ms⟩ := K
  obtain ⟨hx, hb, hml, hr, hlocks, hin, hown, hts, hK, hSt, hbase, ht0, hRc, hRs, hfr, hlo⟩ := E
  obtain ⟨x1, x2, x3, x4, x5, x6⟩ := X
  subst x1 x2 x3 x5 x6
  intro H locs la hP hS hla hkc hks
  refine va_forget (fun q hq => ?_) ?_
  · have := hS.2.2 q hq
    rw [← x4]
    exact this
  · refine W.widen (k := 600000) (n := 7302250) (by omega) (by omega) ?_
    exact lw_ret hx hb hr hlocks hd
end ZWR
