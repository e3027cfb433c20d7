/-! ROWS: calls by contract, returns, the copying of a whole row -/
theorem z_good : ∀ w ∈ z_tbl, goodWord w = true := fun _ h => (List.mem_filter.mp h).2
theorem z_gin {ws : List Cond} (h : ∀ w ∈ ws, w ∈ z_tbl) : GoodIn z_tbl ws := fun w hw => ⟨h w hw, good_of_word (z_good w (h w hw))⟩
def z_plain (y : MethodName) (np : Nat) : Prop := y.cls ≠ "java/lang/invoke/MethodHandle" ∧ y.cls ≠ "java/lang/invoke/VarHandle" ∧ (parseMethodDescriptor y.desc).map (fun d => d.parameters.length) = some np
/-- what the tables say of a method that is called on an object of class ci -/
def z_YV (y : MethodName) (cc : ByteArray) (nL : Nat) (ret : Option FieldType) (np ci : Nat) : Prop := Cond.code y cc nL ret ∈ z_tbl ∧ Cond.instanceMethod y ∈ z_tbl ∧ Cond.selects y.cls y y ∈ z_tbl ∧ Cond.initialized y.cls ∈ z_tbl ∧ z_plain y np ∧ nL ≤ 45 ∧ ci < 6 ∧ z_R ci = y.cls
def z_YS (y : MethodName) (cc : ByteArray) (nL : Nat) (ret : Option FieldType) (np : Nat) : Prop := Cond.code y cc nL ret ∈ z_tbl ∧ Cond.static y ∈ z_tbl ∧ Cond.initialized y.cls ∈ z_tbl ∧ z_plain y np ∧ nL ≤ 45
def z_YI (y : MethodName) (cc : ByteArray) (nL : Nat) (np : Nat) : Prop := Cond.code y cc nL none ∈ z_tbl ∧ Cond.instanceMethod y ∈ z_tbl ∧ Cond.initialized y.cls ∈ z_tbl ∧ y.name = "<init>" ∧ z_plain y np ∧ nL ≤ 45
theorem z_wd_in {y : MethodName} {cc : ByteArray} {nL : Nat} {ret : Option FieldType} (h : Cond.code y cc nL ret ∈ z_tbl) : ∀ w ∈ z_wd y cc nL ret, w ∈ z_tbl := fun w hw => by
  rcases List.mem_cons.mp hw with rfl | hw
  · exact h
  · exact hw
section ZCALL
variable {p : Program} {l : Launch} {e : Env} {R : Room} {s : State} {m : MethodId} {args : Array Value} {below : List Frame} {meth : Method} {c : Code} {H : Heap} {locs : List Loc} {cells slots : Nat} {Qf : State → Prop}
theorem z_call {G : zG} {Q : zQ} {a : Array Value} {pc c1 s1 : Nat} {la : Array Slot} {st0 rest : List Value} (hr : va_Run p l e R s m args below meth c H locs cells slots c1 s1 (F0 m pc la st0) rest (z_Qc G Q a) (z_A G)) (hS : va_S (z_A G) s.heap H locs)
    (kk : ∀ (r : Option Value) (h : zH) (I : zI) (J : zJ) (H1 : Heap) (locs1 : List Loc), Q r h I J → z_P G h I J H1 → va_S (z_A G) s.heap H1 locs1 → W p l e R s m args below meth c H1 locs1 (cells + c1) (slots + s1) Qf (F0 m (pc + 3) la ((r.map (z_cv G)).toList ++ rest))) : W p l e R s m args below meth c H locs cells slots Qf (F0 m pc la st0) := by
  intro T hT X
  obtain ⟨v, st₀, t, T', L, h0, X', hL, e1, e2, ⟨⟨r, h, I, J, hv, hq, hRep⟩, hz, hk⟩, st⟩ := hr T hT X
  cases hv
  rw [h0] at hz hk
  obtain ⟨t2, a1, b1⟩ := kk r h I J T'.heap (locs ++ L) hq (by rw [e1]; exact hRep.1)
    ⟨Nat.le_trans hS.1 (by rw [e1]; exact hz), fun q h1 h2 => by rw [e1, hk q (Nat.lt_of_lt_of_le h1 hS.1) h2]; exact hS.2.1 q h1 h2, fun q hq => by
      rcases List.mem_append.mp hq with h | h
      · exact hS.2.2 q h
      · exact hL q h⟩ T' rfl X'
  exact ⟨t2, st t2 a1, b1⟩
end ZCALL
theorem z_catsum (G : zG) (st : List Value) : ((st.map (z_cv G)).map fun v => v.category).sum = (st.map fun v => v.category).sum := by
  rw [List.map_map]
  congr 2
  funext v
  exact z_cv_cat G v
theorem z_rep_at {G : zG} {h : zH} {I : zI} {J : zJ} {s : State} {H : Heap} {locs : List Loc} (hP : z_P G h I J H) (hS : va_S (z_A G) s.heap H locs) (hK : va_K G.1 vwCl (z_tys G) s) (hSt : z_St G s s.heap) (ht0 : G.2.2.1 < G.2.2.2) {U : State} (hU : U.heap = H) (hW : s.WarmedH U.vm) : z_Rep G h I J U :=
  ⟨by rw [hU]; exact hP, va_K.moved hW.alike hK, by rw [hU]; exact (hSt.kept (fun a h1 h2 => hS.2.1 a h1 h2)).warm hW, ht0⟩
section ZINV
variable {y : MethodName} {cc : ByteArray} {nL d : Nat} {ret : Option FieldType} {K : zK} {pc : Nat} {ls : zL} {st : List Value} {h : zH} {I : zI} {J : zJ} {kc ks : Nat}
theorem v_callV (E : z_E y cc nL ret (d + 1) K) {idx np ci a c1 s1 : Nat} {y2 : MethodName} {cc2 : ByteArray} {nL2 : Nat} {ret2 : Option FieldType} {As stk : List Value} {Q2 : zQ} (hd : decode cc pc = .ok (.invokevirtual idx, 3)) (hlk : Cond.methodLink y.cls idx y2 ∈ z_tbl) (hY : z_YV y2 cc2 nL2 ret2 np ci) (hM : z_C y2 cc2 nL2 ret2 d (.ref a :: As) h I J c1 s1 Q2) (hT : (h.2.1 a).1 = ci) (hn : As.length = np) (hst : stk = As.reverse ++ .ref a :: st) (hw : (st.map fun v => v.category).sum ≤ 8)
    (k : ∀ (r : Option Value) (h' : zH) (I' : zI) (J' : zJ), Q2 r h' I' J' → z_V K (pc + 3) ls (r.toList ++ st) h' I' J' kc ks) : z_V K pc ls stk h I J (kc + c1) (ks + s1) := by
  obtain ⟨⟨p, l, e, R, s, m, args, below, meth, c⟩, Qf, G, mc, ms⟩ := K
  obtain ⟨hx, hb, hml, hr, hlocks, hin, hown, hts, hK, hSt, hbase, ht0, hRc, hRs, hfr, hlo⟩ := E
  intro H locs la hP hS hl hkc hks
  obtain ⟨y1, y3, y4, y5, y6, y7, hci, hcn⟩ := hY
  obtain ⟨k0, rfl, hk0, had, hget⟩ := z_place (a := a) hP (by rw [hT]; omega)
  rw [z_cell_o hT hci] at hget
  have hrec : ∃ cell : Cell, H[z_ad G (k0 + 1)]? = some cell ∧ cell.vm.isStatics = false ∧ s.vm.findClass y2.cls = some cell.cls := by
    rw [← hcn]
    exact va_recv hK hP.1 (z_cl hci) hget
  have hG : GoodIn z_tbl (wsV y.cls idx y2.cls y2 (z_wd y2 cc2 nL2 ret2)) := z_gin (fun w hw => by
    rcases List.mem_append.mp hw with h | h
    · simp only [List.mem_cons, List.not_mem_nil, or_false] at h
      rcases h with rfl | rfl | rfl | rfl
      · exact hlk
      · exact y3
      · exact y4
      · exact y5
    · exact z_wd_in y1 w h)
  refine z_call (Q := Q2) (va_runV (nL := c.maxLocals) (As := As.map (z_cv G)) (rest := st.map (z_cv G)) (Ts := z_tbl) (C := y2.cls) (n := np) (bytes := cc2) (maxL := nL2) (ret := ret2) ⟨hx, hb, rfl, hown, hts⟩ (hM l G) (cwV np hts hG rfl rfl rfl ⟨rfl, y6⟩ ⟨by show d + 1 ≤ _; exact hfr, by show 8 + (nL2 + 11) + 64 * d ≤ _; omega⟩) ⟨z_blind _ G h I J, hrec, fun U hU hW => ⟨rfl, z_rep_at hP hS hK hSt ht0 hU hW⟩⟩ rfl (by rw [List.length_map]; exact hn) hl.1 (by rw [hst]; simp [z_cv]) (by show 2 * 0 + _ ≤ 8; rw [z_catsum]; omega) hd ⟨by rw [hRc]; omega, by rw [hRs]; omega⟩) hS fun r h' I' J' H1 locs1 hq hP1 hS1 => ?_
  have e1 : mc - (kc + c1) + c1 = mc - kc := by omega
  have e2 : ms - (ks + s1) + s1 = ms - ks := by omega
  rw [e1, e2]
  have := k r h' I' J' hq H1 locs1 la hP1 hS1 hl (by omega) (by omega)
  cases r with
  | none => exact this
  | some v => exact this
theorem v_callI (E : z_E y cc nL ret (d + 1) K) {idx np a c1 s1 : Nat} {y2 : MethodName} {cc2 : ByteArray} {nL2 : Nat} {As stk : List Value} {Q2 : zQ} (hd : decode cc pc = .ok (.invokespecial idx, 3)) (hlk : Cond.methodLink y.cls idx y2 ∈ z_tbl) (hY : z_YI y2 cc2 nL2 np) (hM : z_C y2 cc2 nL2 none d (.ref a :: As) h I J c1 s1 Q2) (hn : As.length = np) (hst : stk = As.reverse ++ .ref a :: st) (hw : (st.map fun v => v.category).sum ≤ 8)
    (k : ∀ (r : Option Value) (h' : zH) (I' : zI) (J' : zJ), Q2 r h' I' J' → z_V K (pc + 3) ls (r.toList ++ st) h' I' J' kc ks) : z_V K pc ls stk h I J (kc + c1) (ks + s1) := by
  obtain ⟨⟨p, l, e, R, s, m, args, below, meth, c⟩, Qf, G, mc, ms⟩ := K
  obtain ⟨hx, hb, hml, hr, hlocks, hin, hown, hts, hK, hSt, hbase, ht0, hRc, hRs, hfr, hlo⟩ := E
  intro H locs la hP hS hl hkc hks
  obtain ⟨y1, y3, y5, y8, y6, y7⟩ := hY
  refine z_call (Q := Q2) (va_runI (nL := c.maxLocals) (b := z_ad G a) (As := As.map (z_cv G)) (rest := st.map (z_cv G)) (Ts := z_tbl) (n := np) (bytes := cc2) (maxL := nL2) ⟨hx, hb, rfl, hown, hts⟩ (hM l G) (cwI np hts (z_gin (z_wd_in y1)) rfl rfl rfl (hts _ y5) (hts _ hlk) (hts _ y3) y8 y6 ⟨by show d + 1 ≤ _; exact hfr, by show 8 + (nL2 + 11) + 64 * d ≤ _; omega⟩) ⟨z_blind _ G h I J, fun U hU hW => ⟨rfl, z_rep_at hP hS hK hSt ht0 hU hW⟩⟩ rfl (by rw [List.length_map]; exact hn) hl.1 (by rw [hst]; simp [z_cv]) (by show 2 * 0 + _ ≤ 8; rw [z_catsum]; omega) hd ⟨by rw [hRc]; omega, by rw [hRs]; omega⟩) hS fun r h' I' J' H1 locs1 hq hP1 hS1 => ?_
  have e1 : mc - (kc + c1) + c1 = mc - kc := by omega
  have e2 : ms - (ks + s1) + s1 = ms - ks := by omega
  rw [e1, e2]
  have := k r h' I' J' hq H1 locs1 la hP1 hS1 hl (by omega) (by omega)
  cases r with
  | none => exact this
  | some v => exact this
theorem v_callS (E : z_E y cc nL ret (d + 1) K) {idx np c1 s1 : Nat} {y2 : MethodName} {cc2 : ByteArray} {nL2 : Nat} {ret2 : Option FieldType} {As stk : List Value} {Q2 : zQ} (hd : decode cc pc = .ok (.invokestatic idx, 3)) (hlk : Cond.methodLink y.cls idx y2 ∈ z_tbl) (hY : z_YS y2 cc2 nL2 ret2 np) (hM : z_C y2 cc2 nL2 ret2 d As h I J c1 s1 Q2) (hn : As.length = np) (hst : stk = As.reverse ++ st) (hw : (st.map fun v => v.category).sum ≤ 8)
    (k : ∀ (r : Option Value) (h' : zH) (I' : zI) (J' : zJ), Q2 r h' I' J' → z_V K (pc + 3) ls (r.toList ++ st) h' I' J' kc ks) : z_V K pc ls stk h I J (kc + c1) (ks + s1) := by
  obtain ⟨⟨p, l, e, R, s, m, args, below, meth, c⟩, Qf, G, mc, ms⟩ := K
  obtain ⟨hx, hb, hml, hr, hlocks, hin, hown, hts, hK, hSt, hbase, ht0, hRc, hRs, hfr, hlo⟩ := E
  intro H locs la hP hS hl hkc hks
  obtain ⟨y1, y3, y5, y6, y7⟩ := hY
  have hG : GoodIn z_tbl (va_wsS y.cls idx y2 (z_wd y2 cc2 nL2 ret2)) := z_gin (fun w hw => by
    rcases List.mem_append.mp hw with h | h
    · simp only [List.mem_cons, List.not_mem_nil, or_false] at h
      rcases h with rfl | rfl | rfl
      · exact hlk
      · exact y3
      · exact y5
    · exact z_wd_in y1 w h)
  refine z_call (Q := Q2) (va_runS (nL := c.maxLocals) (As := As.map (z_cv G)) (rest := st.map (z_cv G)) (Ts := z_tbl) (n := np) (bytes := cc2) (maxL := nL2) (ret := ret2) ⟨hx, hb, rfl, hown, hts⟩ (hM l G) (va_cwS np hts hG rfl rfl rfl y6 ⟨by show d + 1 ≤ _; exact hfr, by show 8 + (nL2 + 11) + 64 * d ≤ _; omega⟩) ⟨z_blind _ G h I J, fun U hU hW => ⟨rfl, z_rep_at hP hS hK hSt ht0 hU hW⟩⟩ rfl (by rw [List.length_map]; exact hn) hl.1 (by rw [hst]; simp) (by show 2 * 0 + _ ≤ 8; rw [z_catsum]; omega) hd ⟨by rw [hRc]; omega, by rw [hRs]; omega⟩) hS fun r h' I' J' H1 locs1 hq hP1 hS1 => ?_
  have e1 : mc - (kc + c1) + c1 = mc - kc := by omega
  have e2 : ms - (ks + s1) + s1 = ms - ks := by omega
  rw [e1, e2]
  have := k r h' I' J' hq H1 locs1 la hP1 hS1 hl (by omega) (by omega)
  cases r with
  | none => exact this
  | some v => exact this
/-- a private static method of a nest mate -/
theorem v_callN (E : z_E y cc nL ret (d + 1) K) {idx np c1 s1 : Nat} {host : String} {y2 : MethodName} {cc2 : ByteArray} {nL2 : Nat} {ret2 : Option FieldType} {As stk : List Value} {Q2 : zQ} (hd : decode cc pc = .ok (.invokestatic idx, 3)) (hlk : ∀ U, z_Nw U → va_Nw (.methodLinkNest y.cls idx y2 host) U) (hY : z_YS y2 cc2 nL2 ret2 np) (hM : z_C y2 cc2 nL2 ret2 d As h I J c1 s1 Q2) (hn : As.length = np) (hst : stk = As.reverse ++ st) (hw : (st.map fun v => v.category).sum ≤ 8)
    (k : ∀ (r : Option Value) (h' : zH) (I' : zI) (J' : zJ), Q2 r h' I' J' → z_V K (pc + 3) ls (r.toList ++ st) h' I' J' kc ks) : z_V K pc ls stk h I J (kc + c1) (ks + s1) := by
  obtain ⟨⟨p, l, e, R, s, m, args, below, meth, c⟩, Qf, G, mc, ms⟩ := K
  obtain ⟨hx, hb, hml, hr, hlocks, hin, hown, hts, hK, hSt, hbase, ht0, hRc, hRs, hfr, hlo⟩ := E
  intro H locs la hP hS hl hkc hks
  obtain ⟨y1, y3, y5, y6, y7⟩ := hY
  have hnw : va_Nw (.methodLinkNest y.cls idx y2 host) s := hlk s hSt.1
  refine z_call (Q := Q2) (va_runSN (nL := c.maxLocals) (As := As.map (z_cv G)) (rest := st.map (z_cv G)) (Ts := z_tbl) (n := np) (bytes := cc2) (maxL := nL2) (ret := ret2) ⟨hx, hb, rfl, hown, hts⟩ (hM l G) ⟨va_cnB np hts (z_gin (z_wd_in y1)) rfl rfl rfl hnw (hts _ y5) y6 ⟨by show d + 1 ≤ _; exact hfr, by show 8 + (nL2 + 11) + 64 * d ≤ _; omega⟩, hts _ y3, trivial⟩ ⟨z_blind _ G h I J, fun U hU hW => ⟨rfl, z_rep_at hP hS hK hSt ht0 hU hW⟩⟩ rfl (by rw [List.length_map]; exact hn) hl.1 (by rw [hst]; simp) (by show 2 * 0 + _ ≤ 8; rw [z_catsum]; omega) hd ⟨by rw [hRc]; omega, by rw [hRs]; omega⟩) hS fun r h' I' J' H1 locs1 hq hP1 hS1 => ?_
  have e1 : mc - (kc + c1) + c1 = mc - kc := by omega
  have e2 : ms - (ks + s1) + s1 = ms - ks := by omega
  rw [e1, e2]
  have := k r h' I' J' hq H1 locs1 la hP1 hS1 hl (by omega) (by omega)
  cases r with
  | none => exact this
  | some v => exact this
/-- the ends of methods -/
theorem v_iret (E : z_E y cc nL (some .int) d K) {Q : zQ} (X : z_X Q K) {v : Int32} (hd : decode cc pc = .ok (.ireturn, 1)) (hq : Q (some (.int v)) h I J) : z_V K pc ls [.int v] h I J kc ks := by
  obtain ⟨⟨p, l, e, R, s, m, args, below, meth, c⟩, Qf, G, mc, ms⟩ := K
  obtain ⟨hx, hb, hml, hr, hlocks, hin, hown, hts, hK, hSt, hbase, ht0, hRc, hRs, hfr, hlo⟩ := E
  intro H locs la hP hS hl hkc hks
  have X : Qf = _ := X
  subst X
  refine W.widen (k := mc) (n := ms) (Nat.sub_le _ _) (Nat.sub_le _ _) ?_
  exact W.iret (v := v) hx hb hr (fun t ht hW => ⟨⟨some (.int v), h, I, J, rfl, hq, z_rep_at hP hS hK hSt ht0 ht hW⟩, hS.F ht⟩) hS.2.2 hd hlocks
theorem v_zret (E : z_E y cc nL (some .boolean) d K) {Q : zQ} (X : z_X Q K) {v : Int32} (hd : decode cc pc = .ok (.ireturn, 1)) (hv : v = 0 ∨ v = 1) (hq : Q (some (.int v)) h I J) : z_V K pc ls [.int v] h I J kc ks := by
  obtain ⟨⟨p, l, e, R, s, m, args, below, meth, c⟩, Qf, G, mc, ms⟩ := K
  obtain ⟨hx, hb, hml, hr, hlocks, hin, hown, hts, hK, hSt, hbase, ht0, hRc, hRs, hfr, hlo⟩ := E
  intro H locs la hP hS hl hkc hks
  have X : Qf = _ := X
  subst X
  refine W.widen (k := mc) (n := ms) (Nat.sub_le _ _) (Nat.sub_le _ _) ?_
  exact W.zret (v := v) hx hb hr (by rcases hv with rfl | rfl <;> decide +kernel) (fun t ht hW => ⟨⟨some (.int v), h, I, J, rfl, hq, z_rep_at hP hS hK hSt ht0 ht hW⟩, hS.F ht⟩) hS.2.2 hd hlocks
theorem v_lret (E : z_E y cc nL (some .long) d K) {Q : zQ} (X : z_X Q K) {v : Int64} (hd : decode cc pc = .ok (.lreturn, 1)) (hq : Q (some (.long v)) h I J) : z_V K pc ls [.long v] h I J kc ks := by
  obtain ⟨⟨p, l, e, R, s, m, args, below, meth, c⟩, Qf, G, mc, ms⟩ := K
  obtain ⟨hx, hb, hml, hr, hlocks, hin, hown, hts, hK, hSt, hbase, ht0, hRc, hRs, hfr, hlo⟩ := E
  intro H locs la hP hS hl hkc hks
  have X : Qf = _ := X
  subst X
  refine W.widen (k := mc) (n := ms) (Nat.sub_le _ _) (Nat.sub_le _ _) ?_
  exact W.lret (v := v) hx hb hr (fun t ht hW => ⟨⟨some (.long v), h, I, J, rfl, hq, z_rep_at hP hS hK hSt ht0 ht hW⟩, hS.F ht⟩) hS.2.2 hd hlocks
theorem v_vret (E : z_E y cc nL none d K) {Q : zQ} (X : z_X Q K) (hd : decode cc pc = .ok (.return_, 1)) (hq : Q none h I J) : z_V K pc ls [] h I J kc ks := by
  obtain ⟨⟨p, l, e, R, s, m, args, below, meth, c⟩, Qf, G, mc, ms⟩ := K
  obtain ⟨hx, hb, hml, hr, hlocks, hin, hown, hts, hK, hSt, hbase, ht0, hRc, hRs, hfr, hlo⟩ := E
  intro H locs la hP hS hl hkc hks
  have X : Qf = _ := X
  subst X
  refine W.widen (k := mc) (n := ms) (Nat.sub_le _ _) (Nat.sub_le _ _) ?_
  exact W.vret hx hb hr (fun t ht hW => ⟨⟨none, h, I, J, rfl, hq, z_rep_at hP hS hK hSt ht0 ht hW⟩, hS.F ht⟩) hS.2.2 hd hlocks
theorem v_aret {rt : FieldType} (E : z_E y cc nL (some rt) d K) (hrt : (∃ n, rt = .object n) ∨ ∃ t, rt = .array t) {Q : zQ} (X : z_X Q K) {b : Nat} (hd : decode cc pc = .ok (.areturn, 1)) (hq : Q (some (.ref b)) h I J) : z_V K pc ls [.ref b] h I J kc ks := by
  obtain ⟨⟨p, l, e, R, s, m, args, below, meth, c⟩, Qf, G, mc, ms⟩ := K
  obtain ⟨hx, hb, hml, hr, hlocks, hin, hown, hts, hK, hSt, hbase, ht0, hRc, hRs, hfr, hlo⟩ := E
  intro H locs la hP hS hl hkc hks
  have X : Qf = _ := X
  subst X
  refine W.widen (k := mc) (n := ms) (Nat.sub_le _ _) (Nat.sub_le _ _) ?_
  exact W.aret (v := .ref (z_ad G b)) hx hb hr hrt (Or.inr ⟨_, rfl⟩) (fun t ht hW => ⟨⟨some (.ref b), h, I, J, rfl, hq, z_rep_at hP hS hK hSt ht0 ht hW⟩, hS.F ht⟩) hS.2.2 hd hlocks
theorem z_nn : ∀ z : Int32, ¬ z < 0 → z.toInt = (z.toNatClampNeg : Int) := by
  intro z hz
  have hz0 : (0 : Int) ≤ z.toInt := by
    have := Int32.not_lt.mp hz
    simpa using Int32.le_iff_toInt_le.mp this
  show z.toInt = ((z.toInt.toNat : Nat) : Int)
  omega
/-- System.arraycopy of a whole row of ints -/
theorem v_copyI (E : z_E y cc nL ret (d + 1) K) {idx a a0 N : Nat} {n : Int32} (hd : decode cc pc = .ok (.invokestatic idx, 3)) (hlk : Cond.methodLink y.cls idx arraycopyName ∈ z_tbl) (hT0 : h.2.1 a0 = (10, N)) (hT : h.2.1 a = (10, N)) (hN : n = nI N) (hb9 : N ≤ 100000) (hw : (st.map fun v => v.category).sum ≤ 8) (k : z_V K (pc + 3) ls st h (z_w I a (va_cpy (I a0) (I a) 0 0 N)) J kc ks) : z_V K pc ls (.int n :: .int 0 :: .ref a :: .int 0 :: .ref a0 :: st) h I J kc ks := by
  obtain ⟨⟨p, l, e, R, s, m, args, below, meth, c⟩, Qf, G, mc, ms⟩ := K
  obtain ⟨hx, hb, hml, hr, hlocks, hin, hown, hts, hK, hSt, hbase, ht0, hRc, hRs, hfr, hlo⟩ := E
  intro H locs la hP hS hl hkc hks
  obtain ⟨q0, rfl, hq0, had0, hget0⟩ := z_place (a := a0) hP (by rw [hT0]; exact Nat.le_of_ble_eq_true rfl)
  rw [z_cell_i hT0] at hget0
  obtain ⟨q1, rfl, hq1, had1, hget1⟩ := z_place (a := a) hP (by rw [hT]; exact Nat.le_of_ble_eq_true rfl)
  rw [z_cell_i hT] at hget1
  have hn0 : ¬ n < 0 := by rw [hN]; exact nI_pos (by omega)
  have hnN : n.toNatClampNeg = N := by rw [hN]; exact nI_clamp (by omega)
  have h00 : ¬ (0 : Int32) < 0 := by decide
  have c00 : (0 : Int32).toNatClampNeg = 0 := by decide
  generalize hf : I (q0 + 1) = f at *
  generalize hg : I (q1 + 1) = g at *
  intro T hT9 X
  have hc0 : H[z_ad G (q0 + 1)]? = some (vp_cell G.2.1.1 (N, .inl f)) := hP.1 q0 _ hget0
  have hc1 : H[z_ad G (q1 + 1)]? = some (vp_cell G.2.1.1 (N, .inl g)) := hP.1 q1 _ hget1
  obtain ⟨-, k0, hk0, cm0, hkk0⟩ := (hK.2 0 _ rfl).1 N (fun j => .int (f j))
  obtain ⟨vm', X', step⟩ := X.arraycopy hx hown (hts _ hlk) (hts _ (z_mem (by decide +kernel) rfl)) (hts _ (z_mem (by decide +kernel) rfl)) (hts _ (z_mem (by decide +kernel) rfl)) (src := z_ad G (q0 + 1)) (dst := z_ad G (q1 + 1)) (cs := vp_cell G.2.1.1 (N, .inl f)) (cd := vp_cell G.2.1.1 (N, .inl g)) (srcPos := 0) (destPos := 0) (n := n) (by rw [hT9]; exact hc0) (by rw [hT9]; exact hc1)
    (fun _ h => by cases h) (fun _ h => by cases h) (fun h => by cases h) (fun h => by cases h) hk0 hk0 hkk0 hkk0 (by simp [refKind]) h00 h00 hn0
    (by rw [z_nn n hn0, hnN]; show ¬ (0 : Int) + _ > ((arrV G.2.1.1 N (fun j => .int (f j))).slots.size : Int); rw [arrV_size]; omega)
    (by rw [z_nn n hn0, hnN]; show ¬ (0 : Int) + _ > ((arrV G.2.1.1 N (fun j => .int (g j))).slots.size : Int); rw [arrV_size]; omega)
    (fun vm₁ _ i hi => by
      rw [hnN] at hi
      have e : (vp_cell G.2.1.1 (N, .inl f)).slots.getD ((0 : Int32).toNatClampNeg + i) .null = .int (f ((0 : Int32).toNatClampNeg + i)) := by
        show (arrV G.2.1.1 N (fun j => .int (f j))).slots.getD _ _ = _
        rw [Array.getD_eq_getD_getElem?, arrV_read _ _ (by rw [c00]; omega)]
        rfl
      refine ⟨?_, ?_⟩
      · rw [e]
        rfl
      · rw [e]
        exact trivial)
    (g := F0 m pc la (.int n :: .int 0 :: .ref (z_ad G (q1 + 1)) :: .int 0 :: .ref (z_ad G (q0 + 1)) :: st.map (z_cv G))) rfl hl.1 (rest := st.map (z_cv G)) rfl (by rw [hb]; exact hd) (by omega) (by
      show 2 * 0 + _ + (nativeFrameWords "java/lang/System" "arraycopy" 5 + 11) ≤ _
      rw [z_catsum]
      have : nativeFrameWords "java/lang/System" "arraycopy" 5 ≤ 40 := by decide +kernel
      omega)
  have e1 : copied (vp_cell G.2.1.1 (N, .inl f)) (vp_cell G.2.1.1 (N, .inl g)) 0 0 n = vp_cell G.2.1.1 (N, .inl (va_cpy f g 0 0 N)) := by
    have := va_copied (fun z => .int z) G.2.1.1 G.2.1.1 (n0 := N) (n1 := N) f g (sp := 0) (dp := 0) (n := N) (by omega)
    rw [← hnN] at this
    rw [hnN] at this
    have e9 : copied (vp_cell G.2.1.1 (N, .inl f)) (vp_cell G.2.1.1 (N, .inl g)) 0 0 n = (arrV G.2.1.1 N (fun j => .int (g j))).storeRun (0 : Int32).toNatClampNeg ((arrV G.2.1.1 N (fun j => .int (f j))).stretch (0 : Int32).toNatClampNeg n.toNatClampNeg) := rfl
    rw [e9, c00, hnN]
    exact this
  rw [e1] at X' step
  have hlt : z_ad G (q1 + 1) < H.size := (Array.getElem?_eq_some_iff.mp hc1).1
  have hheap : ((T.setVm vm').setCell (z_ad G (q1 + 1)) (vp_cell G.2.1.1 (N, .inl (va_cpy f g 0 0 N)))).heap = H.setIfInBounds (z_ad G (q1 + 1)) (vp_cell G.2.1.1 (N, .inl (va_cpy f g 0 0 N))) := by rw [← hT9]; rfl
  have oq : ∀ q : Nat, q ≠ z_ad G (q1 + 1) → (H.setIfInBounds (z_ad G (q1 + 1)) (vp_cell G.2.1.1 (N, .inl (va_cpy f g 0 0 N))))[q]? = H[q]? := fun q hq => by simp [Array.getElem?_setIfInBounds, Ne.symm hq]
  have hP1 := hP.1.set (z_D G h I J) hget1 (e := .inl (G.2.1.1, N, .inl (va_cpy f g 0 0 N))) (H1 := H.setIfInBounds (z_ad G (q1 + 1)) (vp_cell G.2.1.1 (N, .inl (va_cpy f g 0 0 N)))) (show (H.setIfInBounds (z_ad G (q1 + 1)) _)[z_ad G (q1 + 1)]? = some _ by simp [Array.getElem?_setIfInBounds, hlt]) oq
  have hPn : z_P G h (z_w I (q1 + 1) (va_cpy f g 0 0 N)) J (H.setIfInBounds (z_ad G (q1 + 1)) (vp_cell G.2.1.1 (N, .inl (va_cpy f g 0 0 N)))) := by
    refine hP.put hq1 rfl (fun _ => rfl) (fun b hb => z_cell_eq rfl rfl (z_w_row hb) rfl) ?_ hP1 (by simp)
    rw [z_cell_i hT, z_w_same]
  obtain ⟨t, a1, b1⟩ := k _ _ la hPn ⟨by simp; exact hS.1, fun q g1 g2 => by
      rw [oq q (fun e => g2 (by rw [e]; exact (z_D G h I J).2 q1 _ hget1))]
      exact hS.2.1 q g1 g2, fun q hq => by
      rcases List.mem_append.mp hq with h | h
      · exact hS.2.2 q h
      · obtain ⟨z, -, hz⟩ := List.mem_map.mp h
        rw [← hz]
        exact (z_D G _ _ J).2 q1 _ hget1⟩ hl hkc hks _ hheap X'
  exact ⟨t, step t a1, b1⟩
/-- System.arraycopy of a whole row of longs -/
theorem v_copyJ (E : z_E y cc nL ret (d + 1) K) {idx a a0 N : Nat} {n : Int32} (hd : decode cc pc = .ok (.invokestatic idx, 3)) (hlk : Cond.methodLink y.cls idx arraycopyName ∈ z_tbl) (hT0 : h.2.1 a0 = (11, N)) (hT : h.2.1 a = (11, N)) (hN : n = nI N) (hb9 : N ≤ 100000) (hw : (st.map fun v => v.category).sum ≤ 8) (k : z_V K (pc + 3) ls st h I (z_w J a (va_cpy (J a0) (J a) 0 0 N)) kc ks) : z_V K pc ls (.int n :: .int 0 :: .ref a :: .int 0 :: .ref a0 :: st) h I J kc ks := by
  obtain ⟨⟨p, l, e, R, s, m, args, below, meth, c⟩, Qf, G, mc, ms⟩ := K
  obtain ⟨hx, hb, hml, hr, hlocks, hin, hown, hts, hK, hSt, hbase, ht0, hRc, hRs, hfr, hlo⟩ := E
  intro H locs la hP hS hl hkc hks
  obtain ⟨q0, rfl, hq0, had0, hget0⟩ := z_place (a := a0) hP (by rw [hT0]; exact Nat.le_of_ble_eq_true rfl)
  rw [z_cell_l hT0] at hget0
  obtain ⟨q1, rfl, hq1, had1, hget1⟩ := z_place (a := a) hP (by rw [hT]; exact Nat.le_of_ble_eq_true rfl)
  rw [z_cell_l hT] at hget1
  have hn0 : ¬ n < 0 := by rw [hN]; exact nI_pos (by omega)
  have hnN : n.toNatClampNeg = N := by rw [hN]; exact nI_clamp (by omega)
  have h00 : ¬ (0 : Int32) < 0 := by decide
  have c00 : (0 : Int32).toNatClampNeg = 0 := by decide
  generalize hf : J (q0 + 1) = f at *
  generalize hg : J (q1 + 1) = g at *
  intro T hT9 X
  have hc0 : H[z_ad G (q0 + 1)]? = some (vp_cell G.2.1.2.1 (N, .inr (.inl f))) := hP.1 q0 _ hget0
  have hc1 : H[z_ad G (q1 + 1)]? = some (vp_cell G.2.1.2.1 (N, .inr (.inl g))) := hP.1 q1 _ hget1
  obtain ⟨-, k0, hk0, cm0, hkk0⟩ := (hK.2 1 _ rfl).1 N (fun j => .long (f j))
  obtain ⟨vm', X', step⟩ := X.arraycopy hx hown (hts _ hlk) (hts _ (z_mem (by decide +kernel) rfl)) (hts _ (z_mem (by decide +kernel) rfl)) (hts _ (z_mem (by decide +kernel) rfl)) (src := z_ad G (q0 + 1)) (dst := z_ad G (q1 + 1)) (cs := vp_cell G.2.1.2.1 (N, .inr (.inl f))) (cd := vp_cell G.2.1.2.1 (N, .inr (.inl g))) (srcPos := 0) (destPos := 0) (n := n) (by rw [hT9]; exact hc0) (by rw [hT9]; exact hc1)
    (fun _ h => by cases h) (fun _ h => by cases h) (fun h => by cases h) (fun h => by cases h) hk0 hk0 hkk0 hkk0 (by simp [refKind]) h00 h00 hn0
    (by rw [z_nn n hn0, hnN]; show ¬ (0 : Int) + _ > ((arrV G.2.1.2.1 N (fun j => .long (f j))).slots.size : Int); rw [arrV_size]; omega)
    (by rw [z_nn n hn0, hnN]; show ¬ (0 : Int) + _ > ((arrV G.2.1.2.1 N (fun j => .long (g j))).slots.size : Int); rw [arrV_size]; omega)
    (fun vm₁ _ i hi => by
      rw [hnN] at hi
      have e : (vp_cell G.2.1.2.1 (N, .inr (.inl f))).slots.getD ((0 : Int32).toNatClampNeg + i) .null = .long (f ((0 : Int32).toNatClampNeg + i)) := by
        show (arrV G.2.1.2.1 N (fun j => .long (f j))).slots.getD _ _ = _
        rw [Array.getD_eq_getD_getElem?, arrV_read _ _ (by rw [c00]; omega)]
        rfl
      refine ⟨?_, ?_⟩
      · rw [e]
        rfl
      · rw [e]
        exact trivial)
    (g := F0 m pc la (.int n :: .int 0 :: .ref (z_ad G (q1 + 1)) :: .int 0 :: .ref (z_ad G (q0 + 1)) :: st.map (z_cv G))) rfl hl.1 (rest := st.map (z_cv G)) rfl (by rw [hb]; exact hd) (by omega) (by
      show 2 * 0 + _ + (nativeFrameWords "java/lang/System" "arraycopy" 5 + 11) ≤ _
      rw [z_catsum]
      have : nativeFrameWords "java/lang/System" "arraycopy" 5 ≤ 40 := by decide +kernel
      omega)
  have e1 : copied (vp_cell G.2.1.2.1 (N, .inr (.inl f))) (vp_cell G.2.1.2.1 (N, .inr (.inl g))) 0 0 n = vp_cell G.2.1.2.1 (N, .inr (.inl (va_cpy f g 0 0 N))) := by
    have := va_copied (fun z => .long z) G.2.1.2.1 G.2.1.2.1 (n0 := N) (n1 := N) f g (sp := 0) (dp := 0) (n := N) (by omega)
    rw [← hnN] at this
    rw [hnN] at this
    have e9 : copied (vp_cell G.2.1.2.1 (N, .inr (.inl f))) (vp_cell G.2.1.2.1 (N, .inr (.inl g))) 0 0 n = (arrV G.2.1.2.1 N (fun j => .long (g j))).storeRun (0 : Int32).toNatClampNeg ((arrV G.2.1.2.1 N (fun j => .long (f j))).stretch (0 : Int32).toNatClampNeg n.toNatClampNeg) := rfl
    rw [e9, c00, hnN]
    exact this
  rw [e1] at X' step
  have hlt : z_ad G (q1 + 1) < H.size := (Array.getElem?_eq_some_iff.mp hc1).1
  have hheap : ((T.setVm vm').setCell (z_ad G (q1 + 1)) (vp_cell G.2.1.2.1 (N, .inr (.inl (va_cpy f g 0 0 N))))).heap = H.setIfInBounds (z_ad G (q1 + 1)) (vp_cell G.2.1.2.1 (N, .inr (.inl (va_cpy f g 0 0 N)))) := by rw [← hT9]; rfl
  have oq : ∀ q : Nat, q ≠ z_ad G (q1 + 1) → (H.setIfInBounds (z_ad G (q1 + 1)) (vp_cell G.2.1.2.1 (N, .inr (.inl (va_cpy f g 0 0 N)))))[q]? = H[q]? := fun q hq => by simp [Array.getElem?_setIfInBounds, Ne.symm hq]
  have hP1 := hP.1.set (z_D G h I J) hget1 (e := .inl (G.2.1.2.1, N, .inr (.inl (va_cpy f g 0 0 N)))) (H1 := H.setIfInBounds (z_ad G (q1 + 1)) (vp_cell G.2.1.2.1 (N, .inr (.inl (va_cpy f g 0 0 N))))) (show (H.setIfInBounds (z_ad G (q1 + 1)) _)[z_ad G (q1 + 1)]? = some _ by simp [Array.getElem?_setIfInBounds, hlt]) oq
  have hPn : z_P G h I (z_w J (q1 + 1) (va_cpy f g 0 0 N)) (H.setIfInBounds (z_ad G (q1 + 1)) (vp_cell G.2.1.2.1 (N, .inr (.inl (va_cpy f g 0 0 N))))) := by
    refine hP.put hq1 rfl (fun _ => rfl) (fun b hb => z_cell_eq rfl rfl rfl (z_w_row hb)) ?_ hP1 (by simp)
    rw [z_cell_l hT, z_w_same]
  obtain ⟨t, a1, b1⟩ := k _ _ la hPn ⟨by simp; exact hS.1, fun q g1 g2 => by
      rw [oq q (fun e => g2 (by rw [e]; exact (z_D G h I J).2 q1 _ hget1))]
      exact hS.2.1 q g1 g2, fun q hq => by
      rcases List.mem_append.mp hq with h | h
      · exact hS.2.2 q h
      · obtain ⟨z, -, hz⟩ := List.mem_map.mp h
        rw [← hz]
        exact (z_D G _ I _).2 q1 _ hget1⟩ hl hkc hks _ hheap X'
  exact ⟨t, step t a1, b1⟩
end ZINV
