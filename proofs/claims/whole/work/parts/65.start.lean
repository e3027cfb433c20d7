/-! THE LAW, from its entry -/
theorem lw_arr {s : State} {args : Array Value} {ty : FieldType} (h : (Cond.arrayClass ty).before args s = true) (hr : ∀ cA, s.vm.findClass ("[" ++ ty.toString) = some cA → va_RA s cA ty) : ∃ cA, ArrOfT s cA ty ∧ va_RA s cA ty := by
  obtain ⟨cA, kA, comp, h1, h2, h3⟩ := Cond.arrayClass_spec h
  exact ⟨cA, fun n z => ⟨(fun k h => by cases h), kA, h2, comp, h3⟩, hr cA h1⟩
theorem lw_arrO {s : State} {args : Array Value} {C : String} (h : (Cond.arrayOver (.object C)).before args s = true) : ∃ cA, ArrOfT s cA (.object C) ∧ va_RA s cA (.object C) := by
  obtain ⟨comp, cA, kA, h1, h2, h3, h4, h5⟩ := Cond.arrayOver_spec h
  exact ⟨cA, fun n z => ⟨(fun k h => by cases h), kA, h3, comp, h4⟩, kA, comp, h3, h4, h1, h5⟩
theorem cI_0 {I I2 : zI} {J J2 : zJ} (h : cI s_0 I J) (hq : ∀ q, q ≤ 16 → I2 q = I q ∧ J2 q = J q) : cI s_0 I2 J2 := by
  obtain ⟨c1, c2, c3, c4, c5, c6, c7, c8⟩ := h
  refine ⟨?_, ?_, ?_, fun p h => absurd h (Nat.not_lt_zero p), fun p h => absurd h (Nat.not_lt_zero p), ?_, ?_, fun p h => absurd h (Nat.not_lt_zero p)⟩
  · rw [(hq 1 (by decide)).1]; exact c1
  · rw [(hq 1 (by decide)).1]; exact c2
  · rw [(hq 3 (by decide)).1]; exact c3
  · rw [(hq 5 (by decide)).1]; exact c6
  · rw [(hq 6 (by decide)).1]; exact c7
theorem lw_enter {b0 L : Nat} {xs : Nat → Int32} {y : MethodName} {K : zK} (hy : y.cls = RL) (E : z_E y code 4 (some .boolean) 41 K) (S : z_Sc b0 L xs K) (X : z_XL b0 K) (hL : L ≤ 2560) : z_W b0 K 0 [] [] z_h0 (fun _ _ => 0) (fun _ _ => 0) 600000 7302250 := by
  have hloop := lw_loop hy E S X hL 512 0 (by omega) (by omega)
  obtain ⟨yc, yn, yd⟩ := y
  have hy : yc = RL := hy
  subst hy
  refine u_wide (kc2 := 3108) (ks2 := 63614) (by decide) (by decide) ?_
  refine u_new (kc := 3107) (ks := 63604) E dL_law_0 (by decide) c_L_7 i_n4 i_i4 i_t4 ?_
  refine u_dup E dL_law_3 rfl ?_
  refine u_callI (kc := 3092) (ks := 62103) (c1 := 15) (s1 := 1501) E dL_law_4 k_L_9 Y_X3_init (m_OCinit _ _ _ (z_zI_new rfl)) rfl rfl (Nat.le_of_ble_eq_true rfl) ?_
  rintro r h' I1 J1 ⟨rfl, rfl, g1⟩
  refine u_astore_n E dL_law_7 (by decide) (by decide) ?_
  refine u_new (kc := 3091) (ks := 62078) E dL_law_8 (by decide) c_L_10 i_n5 i_i5 i_t5 ?_
  refine u_dup E dL_law_11 rfl ?_
  refine u_callI (kc := 3072) (ks := 48128) (c1 := 19) (s1 := 13950) E dL_law_12 k_L_12 Y_X4_init (m_MCinit _ _ _ (z_zI_new rfl)) rfl rfl (Nat.le_of_ble_eq_true rfl) ?_
  rintro r h' I2 J2 ⟨rfl, rfl, p1, p2⟩
  refine u_astore_n E dL_law_15 (by decide) (by decide) ?_
  refine u_iconst (v := nI 0) E dL_law_16 (by decide) ?_
  refine u_istore_n E dL_law_17 (by decide) (by decide) ?_
  refine hloop s_0 _ I2 J2 ⟨s_0_wf, rfl, cI_0 g1 (fun q hq => ⟨?_, ?_⟩), p1⟩
  · rw [(p2 q hq).1]; exact z_zI_old hq
  · rw [(p2 q hq).2]; exact z_zJ_old hq
theorem whole_start {p : Program} {e : Env} {s : State} {m : MethodId} {below : List Frame} {meth : Method} {c : Code} (l : Launch) {b L : Nat} {xs : Nat → Int32} (hL : L ≤ 2560) (C0 : lw_At p s m meth c b L xs) : W p l e room_1 s m #[Value.ref b] below meth c s.heap [] 0 0 (lw_Z below #[Value.ref b] s) (entryFrame m ([Value.ref b] : List Value).toArray 4) := by
  obtain ⟨hx, hb, hr, hml, hown, hts, hX, hbl, hlocks, hgv⟩ := C0
  have hts2 : ∀ w ∈ z_tbl, w.before #[Value.ref b] s = true := fun w h => hts w (List.mem_filter.mp h).1
  obtain ⟨c0, i0, k0⟩ := u_known (C := z_R 0) (T := z_T 0) (N := z_N 0) hts2 (z_uin (by decide)) (hts2 _ i_n0)
  obtain ⟨c1, i1, k1⟩ := u_known (C := z_R 1) (T := z_T 1) (N := z_N 1) hts2 (z_uin (by decide)) (hts2 _ i_n1)
  obtain ⟨c2, i2, k2⟩ := u_known (C := z_R 2) (T := z_T 2) (N := z_N 2) hts2 (z_uin (by decide)) (hts2 _ i_n2)
  obtain ⟨c3, i3, k3⟩ := u_known (C := z_R 3) (T := z_T 3) (N := z_N 3) hts2 (z_uin (by decide)) (hts2 _ i_n3)
  obtain ⟨c4, i4, k4⟩ := u_known (C := z_R 4) (T := z_T 4) (N := z_N 4) hts2 (z_uin (by decide)) (hts2 _ i_n4)
  obtain ⟨c5, i5, k5⟩ := u_known (C := z_R 5) (T := z_T 5) (N := z_N 5) hts2 (z_uin (by decide)) (hts2 _ i_n5)
  obtain ⟨a0, ha0, hr0⟩ := lw_arr (hts (Cond.arrayClass .int) (List.mem_append_right _ (List.mem_of_getElem? (i := 80) (by decide +kernel)))) (fun _ h => h)
  obtain ⟨a1, ha1, hr1⟩ := lw_arr (hts (Cond.arrayClass .long) (List.mem_append_right _ (List.mem_of_getElem? (i := 51) (by decide +kernel)))) (fun _ h => h)
  obtain ⟨a2, ha2, hr2⟩ := lw_arr (hts (Cond.arrayClass .boolean) (List.mem_append_right _ (List.mem_of_getElem? (i := 681) (by decide +kernel)))) (fun _ h => h)
  have hao : (Cond.arrayOver (.object "java/lang/Object")).before #[Value.ref b] s = true := hts _ (List.mem_append_right _ (List.mem_of_getElem? (i := 236) (by decide +kernel)))
  obtain ⟨a3, ha3, hr3⟩ := lw_arrO hao
  have hA : ∀ a : Nat, a < s.heap.size → ¬ (fun q : Nat => s.heap.size ≤ q) a := fun _ h => Nat.not_le.mpr h
  have hfl := flat_of_before _ hgv
  have harr : (Cond.arrayOf (.static "java/util/ArrayList" "DEFAULTCAPACITY_EMPTY_ELEMENTDATA" "[Ljava/lang/Object;") (.object "java/lang/Object")).before #[Value.ref b] s = true := hfl _ (by decide +kernel)
  have hlen : (Cond.eq (.length (.static "java/util/ArrayList" "DEFAULTCAPACITY_EMPTY_ELEMENTDATA" "[Ljava/lang/Object;")) (.int 0)).before #[Value.ref b] s = true := hfl _ (by decide +kernel)
  obtain ⟨t, hev, hT⟩ := va_Tof (N := 0) (f := fun _ => .null) (by decide) harr (va_eqt hlen) (fun j hj => absurd hj (Nat.not_lt_zero j)) hA
  have ht : t < s.heap.size := by
    obtain ⟨cell, h1, _⟩ := hT
    exact (Array.getElem?_eq_some_iff.mp h1).1
  have hZ := va_Zref (A := fun q : Nat => s.heap.size ≤ q) (hts (Cond.laysStatic "java/util/ArrayList" "DEFAULTCAPACITY_EMPTY_ELEMENTDATA" "[Ljava/lang/Object;") (List.mem_append_right _ (List.mem_of_getElem? (i := 38) (by decide +kernel)))) (hts2 _ i_i0) hev hA
  obtain ⟨D, hK⟩ : ∃ D : va_G, va_K D vwCl [(a0, .int), (a1, .long), (a2, .boolean), (a3, .object "java/lang/Object")] s := by
    refine ⟨((fun k => (match k with | 0 => c0 | 1 => c1 | 2 => c2 | 3 => c3 | 4 => c4 | _ => c5)), (fun k => (match k with | 0 => i0 | 1 => i1 | 2 => i2 | 3 => i3 | 4 => i4 | _ => i5))), ?_⟩
    refine ⟨fun k q hq => ?_, fun k q hq => ?_⟩
    · match k, hq with
      | 0, hq => cases hq; exact k0
      | 1, hq => cases hq; exact k1
      | 2, hq => cases hq; exact k2
      | 3, hq => cases hq; exact k3
      | 4, hq => cases hq; exact k4
      | 5, hq => cases hq; exact k5
      | k + 6, hq => cases hq
    · match k, hq with
      | 0, hq => cases hq; exact ⟨ha0, hr0⟩
      | 1, hq => cases hq; exact ⟨ha1, hr1⟩
      | 2, hq => cases hq; exact ⟨ha2, hr2⟩
      | 3, hq => cases hq; exact ⟨ha3, hr3⟩
      | k + 4, hq => cases hq
  have hNw : z_Nw s := ⟨va_tabs rfl rfl (hts (.castable "OneCall$Listener" "java/lang/Object") (List.mem_append_right _ (List.mem_of_getElem? (i := 935) (by decide +kernel)))), va_tabs rfl rfl (hts (.methodLinkNest "OneCall$Knowledge" 29 ⟨"OneCall", "isIn", "(II)Z"⟩ "OneCall") (List.mem_append_right _ (List.mem_of_getElem? (i := 309) (by decide +kernel)))), va_tabs rfl rfl (hts (.methodLinkNest "OneCall$Needs" 66 ⟨"OneCall", "isIn", "(II)Z"⟩ "OneCall") (List.mem_append_right _ (List.mem_of_getElem? (i := 472) (by decide +kernel)))), va_AO.of hao⟩
  have E : z_E ⟨RL, meth.name, ""⟩ code 4 (some .boolean) 41 ((p, l, e, room_1, s, m, #[Value.ref b], below, meth, c), lw_Z below #[Value.ref b] s, (D, (a0, a1, a2, a3), t, s.heap.size), 600000, 7302250) := ⟨hx, hb, hml, hr, hlocks, rfl, hown, hts2, hK, ⟨hNw, hZ, hT⟩, Nat.le_refl _, ht, rfl, rfl, by decide, by decide⟩
  have S : z_Sc b L xs ((p, l, e, room_1, s, m, #[Value.ref b], below, meth, c), lw_Z below #[Value.ref b] s, (D, (a0, a1, a2, a3), t, s.heap.size), 600000, 7302250) := ⟨hX, hbl, hA b hbl⟩
  have X : z_XL b ((p, l, e, room_1, s, m, #[Value.ref b], below, meth, c), lw_Z below #[Value.ref b] s, (D, (a0, a1, a2, a3), t, s.heap.size), 600000, 7302250) := ⟨rfl, rfl, rfl, rfl, rfl, rfl⟩
  have hl := lv_entry ([.ref b]) (n := 4) (Nat.le_of_ble_eq_true rfl)
  rw [lg_entry_eq]
  have key := lw_enter rfl E S X hL s.heap [] _ ⟨(fun k q h => by cases h), rfl, fun a _ => (by decide : 98 < 99)⟩ va_S.rf (by rw [hml]; exact hl) (Nat.le_refl _) (Nat.le_refl _)
  exact key
set_option maxHeartbeats 4000000 in
theorem lw_walk (l : Launch) (b : Addr) (xs : List Int32) : MetFree l x (headSpec (Jvm.Cond.code x code maxLocals ret :: tables_1) room_1) (lw_P b xs) (fun _ _ _ _ _ => True) lw_Q := by
  refine MetFree.of_bodyS (code := code) (maxLocals := maxLocals) (ret := ret) (by decide) ?_ ?_
  · intro args s m h hn
    obtain ⟨meth, c, h1, h2, h3, h4, h5, h6, -, -⟩ := Cond.code_spec hn (atoms_spec (ws := Jvm.Cond.code x code maxLocals ret :: tables_1) h _ List.mem_cons_self)
    exact ⟨meth, c, h1, h2, h3, h4, h5, h6⟩
  · intro p e s m args below meth c s₁ B hml0 hP _
    obtain ⟨rfl, hx, hbd, hgv⟩ := hP
    obtain ⟨scr, harrAt, hlist, hof, hsmall⟩ := hx
    obtain ⟨hcb, hkn, -, -⟩ := State.arrayAt?_spec harrAt
    have hown : s.vm.findClass R_law = some m.cls := findClass_of_methodNamed B.named
    have hts0 : ∀ c ∈ (Jvm.Cond.code x code maxLocals ret :: tables_1), c.before #[Value.ref b] s = true := atoms_spec (ws := Jvm.Cond.code x code maxLocals ret :: tables_1) B.pre
    have hts : ∀ w ∈ lw_tbl, w.before #[Value.ref b] s = true := k2_hts_sels lw_privs (fun w hw => hts0 w (List.mem_cons_of_mem _ hw)) lw_privs_ok
    have hml : c.maxLocals = 4 := B.maxLocals_eq (hts0 _ List.mem_cons_self)
    have X₀ : Stand p l e room_1 s m #[Value.ref b] below meth c s₁ [] 0 0 := Stand.of_body B
    have hh0 : s₁.heap = s.heap := by rw [B.state]; rfl
    have hsz : scr.slots.size = xs.length := by rw [← Array.length_toList, hlist, List.length_map]
    have hval : ∀ j : Nat, j < xs.length → scr.slots[j]? = some (.int (xs.getD j 0)) := fun j hj => by
      rw [← Array.getElem?_toList, hlist]
      simp [hj]
    have hbl : b < s.heap.size := (Array.getElem?_eq_some_iff.mp hcb).1
    have hX : va_X b xs.length (fun j => xs.getD j 0) s s.heap := ⟨scr, hcb, hof, hkn, hsz, hval⟩
    have K : W p l e room_1 s m #[Value.ref b] below meth c s₁.heap [] 0 0 (lw_Z below #[Value.ref b] s) (entryFrame m ([Value.ref b] : List Value).toArray 4) := by
      rw [hh0]
      exact whole_start l hbd ⟨B.exec, B.bytes, B.returns, hml, hown, hts, hX, hbl, B.notSynchronized, hgv⟩
    obtain ⟨t, a1, o, b1, b2, b3⟩ := K s₁ rfl X₀
    exact ⟨t, o, a1, b1, b2, b3⟩
theorem lw_pre_spec {args : Array Value} {s : State} (h : (Jvm.Cond.and given_1 narrow_1).before args s = true) (hr : rest_1_c.before args s = true) : ∃ (b : Addr) (xs : List Int32), lw_P b xs args s := by
  have hs := flat_of_before _ h
  have hq := flat_of_before _ hr
  have hc : (Cond.count 1).before args s = true := hs _ (by decide +kernel)
  have harr : (Cond.arrayOf (.arg 0) .int).before args s = true := hs _ (by decide +kernel)
  have hle : (Cond.le (.length (.arg 0)) (.int 2560)).before args s = true := hs _ (by decide +kernel)
  have hlen : (Cond.isInt (.length (.arg 0))).before args s = true := hq _ (by decide +kernel)
  have hall : (Cond.all (.arg 0) (.isInt (.elem (.arg 0) (.index 0)))).before args s = true := hq _ (by decide +kernel)
  obtain ⟨b, xs, hb, hx⟩ := State.ints_of_pre rfl harr hlen hall
  have hsm : xs.length < 2 ^ 31 := hx.choose_spec.2.2.2
  have hev : (Term.length (.arg 0)).eval args s none [] s = some (.int xs.length.toInt32) := hx.length_eval hb
  have hv := Cond.le_ints hev (show (Term.int 2560).eval args s none [] s = some (.int 2560) from rfl)
  have hd : xs.length.toInt32 ≤ 2560 := by
    simpa [Cond.before, Cond.holds, hv] using hle
  have hN : xs.length ≤ 2560 := (Int32.ofNat_le_ofNat hsm (by decide)).mp (show Int32.ofNat xs.length ≤ Int32.ofNat 2560 from hd)
  exact ⟨b, xs, Cond.one_arg hc (show args[0]? = some (.ref b) from hb), hx, hN, h⟩
theorem lw_comes (l : Launch) : Comes l x (Jvm.Cond.code x code maxLocals ret :: tables_1) room_1 (fun tb e args s => Calls_1 tb e args s ∧ rest_1 tb e args s ∧ Pre_1 tb e args s)
    (fun _ _ args s o t => lw_Q args s o t) := by
  intro p e ha hc hk s m args below hf hfit hheap happ hpre
  obtain ⟨b, xs, hP⟩ := lw_pre_spec hpre.2.2 hpre.2.1
  obtain ⟨k, o, h1, h2, h3, hQ⟩ := lw_walk l b xs p e ha hc hk s m args below hf ((Spec.applies_iff_loose hf).mp happ).1 hP trivial
  exact ⟨k, o, h1, h2, h3, hQ⟩
theorem lw_frame {s t : State} {o : Outcome} {args : Array Value} (h : Framed s o t [] 600000 7302250) :
    Framed s o t (fieldLocs frame_1_writes args s ++ arrayLocs frame_1_arrays args s ++ staticLocs frame_1_statics s) 600000 7302250 := h
theorem lw_limb (L : Cond) (hL : ∀ (args : Array Value) (s t : State), L.after args s (.returned (some (.int 1))) t = true) :
    ArmFor flags0 classFile x code maxLocals ret World_1 tables_1 room_1 Calls_1 rest_1 Pre_1
      (fun tb e a s o t => postC L tb e a s o t ∧ Framed s o t (fieldLocs frame_1_writes a s ++ arrayLocs frame_1_arrays a s ++ staticLocs frame_1_statics s) 600000 7302250) := by
  intro l _ _ _ p e ha hc hk s m args below hf hfit hheap happ hpre
  obtain ⟨k, o, h1, h2, h3, rfl, hF⟩ := lw_comes l p e ha hc hk s m args below hf hfit hheap happ hpre
  exact ⟨k, _, h1, h2, h3, hL args s _, lw_frame hF⟩
theorem i_vc : Claimed_1_1 ∧ Claimed_1_2 := ⟨lw_limb limb_1_1 (fun args s t => by simp [limb_1_1, Cond.after, Cond.holds, Cond.value]), lw_limb limb_1_2 (fun args s t => Cond.after_iff.mpr (by
  first | (rw [show limb_1_2 = Cond.eq .result (.int 1) from rfl, Cond.eq_ints (x := 1) (y := 1) rfl rfl]; simp; done) | (simp [limb_1_2, Cond.value, Term.eval]; done)))⟩
