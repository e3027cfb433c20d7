/-! ROWS: one an instruction, over the judgement z_V -/
section ZROWS
variable {y : MethodName} {cc : ByteArray} {nL d : Nat} {ret : Option FieldType} {K : zK} {pc : Nat} {ls : zL} {st : List Value} {h : zH} {I : zI} {J : zJ} {kc ks : Nat}
theorem v_iconst (E : z_E y cc nL ret d K) {n : Int} {v : Int32} (hd : decode cc pc = .ok (.iconst n, 1)) (hv : Int32.ofInt n = v) (k : z_V K (pc + 1) ls (.int v :: st) h I J kc ks) : z_V K pc ls (st) h I J kc ks := by
  obtain ⟨⟨p, l, e, R, s, m, args, below, meth, c⟩, Qf, G, mc, ms⟩ := K
  obtain ⟨hx, hb, hml, hr, hlocks, hin, hown, hts, hK, hSt, hbase, ht0, hRc, hRs, hfr, hlo⟩ := E
  intro H locs la hP hS hl hkc hks
  exact lv_iconst hx hb hd hv (k H locs la hP hS hl hkc hks)
theorem v_bipush (E : z_E y cc nL ret d K) {n : Int} {v : Int32} (hd : decode cc pc = .ok (.bipush n, 2)) (hv : (Int8.ofInt n).toInt32 = v) (k : z_V K (pc + 2) ls (.int v :: st) h I J kc ks) : z_V K pc ls (st) h I J kc ks := by
  obtain ⟨⟨p, l, e, R, s, m, args, below, meth, c⟩, Qf, G, mc, ms⟩ := K
  obtain ⟨hx, hb, hml, hr, hlocks, hin, hown, hts, hK, hSt, hbase, ht0, hRc, hRs, hfr, hlo⟩ := E
  intro H locs la hP hS hl hkc hks
  exact lv_bipush hx hb hd hv (k H locs la hP hS hl hkc hks)
theorem v_sipush (E : z_E y cc nL ret d K) {n : Int} {v : Int32} (hd : decode cc pc = .ok (.sipush n, 3)) (hv : (Int16.ofInt n).toInt32 = v) (k : z_V K (pc + 3) ls (.int v :: st) h I J kc ks) : z_V K pc ls (st) h I J kc ks := by
  obtain ⟨⟨p, l, e, R, s, m, args, below, meth, c⟩, Qf, G, mc, ms⟩ := K
  obtain ⟨hx, hb, hml, hr, hlocks, hin, hown, hts, hK, hSt, hbase, ht0, hRc, hRs, hfr, hlo⟩ := E
  intro H locs la hP hS hl hkc hks
  exact lv_sipush hx hb hd hv (k H locs la hP hS hl hkc hks)
theorem v_lconst (E : z_E y cc nL ret d K) {n : Fin 2} {v : Int64} (hd : decode cc pc = .ok (.lconst n, 1)) (hv : Int64.ofNat (n : Nat) = v) (k : z_V K (pc + 1) ls (.long v :: st) h I J kc ks) : z_V K pc ls (st) h I J kc ks := by
  obtain ⟨⟨p, l, e, R, s, m, args, below, meth, c⟩, Qf, G, mc, ms⟩ := K
  obtain ⟨hx, hb, hml, hr, hlocks, hin, hown, hts, hK, hSt, hbase, ht0, hRc, hRs, hfr, hlo⟩ := E
  intro H locs la hP hS hl hkc hks
  exact lv_lconst hx hb hd hv (k H locs la hP hS hl hkc hks)
theorem v_null (E : z_E y cc nL ret d K) (hd : decode cc pc = .ok (.aconst_null, 1)) (k : z_V K (pc + 1) ls (.null :: st) h I J kc ks) : z_V K pc ls st h I J kc ks := by
  obtain ⟨⟨p, l, e, R, s, m, args, below, meth, c⟩, Qf, G, mc, ms⟩ := K
  obtain ⟨hx, hb, hml, hr, hlocks, hin, hown, hts, hK, hSt, hbase, ht0, hRc, hRs, hfr, hlo⟩ := E
  intro H locs la hP hS hl hkc hks
  exact lv_null hx hb hd (k H locs la hP hS hl hkc hks)
theorem v_ldc (E : z_E y cc nL ret d K) {index : Nat} {v : Int32} (hd : decode cc pc = .ok (.ldc index, 2)) (hc : Cond.constant y.cls index v ∈ z_tbl) (k : z_V K (pc + 2) ls (.int v :: st) h I J kc ks) : z_V K pc ls st h I J kc ks := by
  obtain ⟨⟨p, l, e, R, s, m, args, below, meth, c⟩, Qf, G, mc, ms⟩ := K
  obtain ⟨hx, hb, hml, hr, hlocks, hin, hown, hts, hK, hSt, hbase, ht0, hRc, hRs, hfr, hlo⟩ := E
  intro H locs la hP hS hl hkc hks
  exact lv_ldc hx hb hown (hts _ hc) hd (k H locs la hP hS hl hkc hks)
theorem v_ldc_w (E : z_E y cc nL ret d K) {index : Nat} {v : Int32} (hd : decode cc pc = .ok (.ldc_w index, 3)) (hc : Cond.constant y.cls index v ∈ z_tbl) (k : z_V K (pc + 3) ls (.int v :: st) h I J kc ks) : z_V K pc ls st h I J kc ks := by
  obtain ⟨⟨p, l, e, R, s, m, args, below, meth, c⟩, Qf, G, mc, ms⟩ := K
  obtain ⟨hx, hb, hml, hr, hlocks, hin, hown, hts, hK, hSt, hbase, ht0, hRc, hRs, hfr, hlo⟩ := E
  intro H locs la hP hS hl hkc hks
  exact lv_ldcw hx hb hown (hts _ hc) hd (k H locs la hP hS hl hkc hks)
theorem v_ldc2_w (E : z_E y cc nL ret d K) {index : Nat} {v : Int64} (hd : decode cc pc = .ok (.ldc2_w index, 3)) (hc : Cond.constantLong y.cls index v ∈ z_tbl) (k : z_V K (pc + 3) ls (.long v :: st) h I J kc ks) : z_V K pc ls st h I J kc ks := by
  obtain ⟨⟨p, l, e, R, s, m, args, below, meth, c⟩, Qf, G, mc, ms⟩ := K
  obtain ⟨hx, hb, hml, hr, hlocks, hin, hown, hts, hK, hSt, hbase, ht0, hRc, hRs, hfr, hlo⟩ := E
  intro H locs la hP hS hl hkc hks
  exact lv_ldc2 hx hb hown (hts _ hc) hd (k H locs la hP hS hl hkc hks)
theorem v_iload (E : z_E y cc nL ret d K) {i : Nat} {x : Int32} (hd : decode cc pc = .ok (.iload i, 2)) (hl : z_at ls i = some (.int x)) (k : z_V K (pc + 2) ls (.int x :: st) h I J kc ks) : z_V K pc ls st h I J kc ks := by
  obtain ⟨⟨p, l, e, R, s, m, args, below, meth, c⟩, Qf, G, mc, ms⟩ := K
  obtain ⟨hx, hb, hml, hr, hlocks, hin, hown, hts, hK, hSt, hbase, ht0, hRc, hRs, hfr, hlo⟩ := E
  intro H locs la hP hS hla hkc hks
  exact lv_iload hx hb hd (z_at_lc hla hl) (k H locs la hP hS hla hkc hks)
theorem v_iload_n (E : z_E y cc nL ret d K) {i : Fin 4} {x : Int32} (hd : decode cc pc = .ok (.iload_n i, 1)) (hl : z_at ls i = some (.int x)) (k : z_V K (pc + 1) ls (.int x :: st) h I J kc ks) : z_V K pc ls st h I J kc ks := by
  obtain ⟨⟨p, l, e, R, s, m, args, below, meth, c⟩, Qf, G, mc, ms⟩ := K
  obtain ⟨hx, hb, hml, hr, hlocks, hin, hown, hts, hK, hSt, hbase, ht0, hRc, hRs, hfr, hlo⟩ := E
  intro H locs la hP hS hla hkc hks
  exact lv_iload_n hx hb hd rfl (z_at_lc hla hl) (k H locs la hP hS hla hkc hks)
theorem v_lload (E : z_E y cc nL ret d K) {i : Nat} {x : Int64} (hd : decode cc pc = .ok (.lload i, 2)) (hl : z_at ls i = some (.long x)) (k : z_V K (pc + 2) ls (.long x :: st) h I J kc ks) : z_V K pc ls st h I J kc ks := by
  obtain ⟨⟨p, l, e, R, s, m, args, below, meth, c⟩, Qf, G, mc, ms⟩ := K
  obtain ⟨hx, hb, hml, hr, hlocks, hin, hown, hts, hK, hSt, hbase, ht0, hRc, hRs, hfr, hlo⟩ := E
  intro H locs la hP hS hla hkc hks
  exact lv_lload hx hb hd (z_at_lc hla hl) (k H locs la hP hS hla hkc hks)
theorem v_lload_n (E : z_E y cc nL ret d K) {i : Fin 4} {x : Int64} (hd : decode cc pc = .ok (.lload_n i, 1)) (hl : z_at ls i = some (.long x)) (k : z_V K (pc + 1) ls (.long x :: st) h I J kc ks) : z_V K pc ls st h I J kc ks := by
  obtain ⟨⟨p, l, e, R, s, m, args, below, meth, c⟩, Qf, G, mc, ms⟩ := K
  obtain ⟨hx, hb, hml, hr, hlocks, hin, hown, hts, hK, hSt, hbase, ht0, hRc, hRs, hfr, hlo⟩ := E
  intro H locs la hP hS hla hkc hks
  exact lv_lload_n hx hb hd rfl (z_at_lc hla hl) (k H locs la hP hS hla hkc hks)
theorem v_aload (E : z_E y cc nL ret d K) {i : Nat} {x : Nat} (hd : decode cc pc = .ok (.aload i, 2)) (hl : z_at ls i = some (.ref x)) (k : z_V K (pc + 2) ls (.ref x :: st) h I J kc ks) : z_V K pc ls st h I J kc ks := by
  obtain ⟨⟨p, l, e, R, s, m, args, below, meth, c⟩, Qf, G, mc, ms⟩ := K
  obtain ⟨hx, hb, hml, hr, hlocks, hin, hown, hts, hK, hSt, hbase, ht0, hRc, hRs, hfr, hlo⟩ := E
  intro H locs la hP hS hla hkc hks
  exact lv_aload hx hb hd (z_at_lc hla hl) (k H locs la hP hS hla hkc hks)
theorem v_aload_n (E : z_E y cc nL ret d K) {i : Fin 4} {x : Nat} (hd : decode cc pc = .ok (.aload_n i, 1)) (hl : z_at ls i = some (.ref x)) (k : z_V K (pc + 1) ls (.ref x :: st) h I J kc ks) : z_V K pc ls st h I J kc ks := by
  obtain ⟨⟨p, l, e, R, s, m, args, below, meth, c⟩, Qf, G, mc, ms⟩ := K
  obtain ⟨hx, hb, hml, hr, hlocks, hin, hown, hts, hK, hSt, hbase, ht0, hRc, hRs, hfr, hlo⟩ := E
  intro H locs la hP hS hla hkc hks
  exact lv_aload_n hx hb hd rfl (z_at_lc hla hl) (k H locs la hP hS hla hkc hks)
theorem v_aload_nN (E : z_E y cc nL ret d K) {i : Fin 4} (hd : decode cc pc = .ok (.aload_n i, 1)) (hl : z_at ls i = some .null) (k : z_V K (pc + 1) ls (.null :: st) h I J kc ks) : z_V K pc ls st h I J kc ks := by
  obtain ⟨⟨p, l, e, R, s, m, args, below, meth, c⟩, Qf, G, mc, ms⟩ := K
  obtain ⟨hx, hb, hml, hr, hlocks, hin, hown, hts, hK, hSt, hbase, ht0, hRc, hRs, hfr, hlo⟩ := E
  intro H locs la hP hS hla hkc hks
  exact lv_aload_nN hx hb hd rfl (z_at_lc hla hl) (k H locs la hP hS hla hkc hks)
theorem v_istore (E : z_E y cc nL ret d K) {i : Nat} {x : Int32} (hd : decode cc pc = .ok (.istore i, 2)) (hn : i < nL) (k : z_V K (pc + 2) (z_set i (.int x) ls) st h I J kc ks) : z_V K pc ls (.int x :: st) h I J kc ks := by
  obtain ⟨⟨p, l, e, R, s, m, args, below, meth, c⟩, Qf, G, mc, ms⟩ := K
  obtain ⟨hx, hb, hml, hr, hlocks, hin, hown, hts, hK, hSt, hbase, ht0, hRc, hRs, hfr, hlo⟩ := E
  intro H locs la hP hS hla hkc hks
  subst hml
  exact lv_istore hx hb hd hla hn rfl (fun la2 hl2 => k H locs la2 hP hS (z_lc_set (v := .int x) (fun q => by rw [z_cv_cat]) hl2) hkc hks)
theorem v_istore_n (E : z_E y cc nL ret d K) {i : Fin 4} {x : Int32} (hd : decode cc pc = .ok (.istore_n i, 1)) (hn : (i : Nat) < nL) (k : z_V K (pc + 1) (z_set i (.int x) ls) st h I J kc ks) : z_V K pc ls (.int x :: st) h I J kc ks := by
  obtain ⟨⟨p, l, e, R, s, m, args, below, meth, c⟩, Qf, G, mc, ms⟩ := K
  obtain ⟨hx, hb, hml, hr, hlocks, hin, hown, hts, hK, hSt, hbase, ht0, hRc, hRs, hfr, hlo⟩ := E
  intro H locs la hP hS hla hkc hks
  subst hml
  exact lv_istore_n hx hb hd rfl hla hn rfl (fun la2 hl2 => k H locs la2 hP hS (z_lc_set (v := .int x) (fun q => by rw [z_cv_cat]) hl2) hkc hks)
theorem v_astore (E : z_E y cc nL ret d K) {i : Nat} {x : Nat} (hd : decode cc pc = .ok (.astore i, 2)) (hn : i < nL) (k : z_V K (pc + 2) (z_set i (.ref x) ls) st h I J kc ks) : z_V K pc ls (.ref x :: st) h I J kc ks := by
  obtain ⟨⟨p, l, e, R, s, m, args, below, meth, c⟩, Qf, G, mc, ms⟩ := K
  obtain ⟨hx, hb, hml, hr, hlocks, hin, hown, hts, hK, hSt, hbase, ht0, hRc, hRs, hfr, hlo⟩ := E
  intro H locs la hP hS hla hkc hks
  subst hml
  exact lv_astore hx hb hd hla hn rfl (fun la2 hl2 => k H locs la2 hP hS (z_lc_set (v := .ref x) (fun q => by rw [z_cv_cat]) hl2) hkc hks)
theorem v_astore_n (E : z_E y cc nL ret d K) {i : Fin 4} {x : Nat} (hd : decode cc pc = .ok (.astore_n i, 1)) (hn : (i : Nat) < nL) (k : z_V K (pc + 1) (z_set i (.ref x) ls) st h I J kc ks) : z_V K pc ls (.ref x :: st) h I J kc ks := by
  obtain ⟨⟨p, l, e, R, s, m, args, below, meth, c⟩, Qf, G, mc, ms⟩ := K
  obtain ⟨hx, hb, hml, hr, hlocks, hin, hown, hts, hK, hSt, hbase, ht0, hRc, hRs, hfr, hlo⟩ := E
  intro H locs la hP hS hla hkc hks
  subst hml
  exact lv_astore_n hx hb hd rfl hla hn rfl (fun la2 hl2 => k H locs la2 hP hS (z_lc_set (v := .ref x) (fun q => by rw [z_cv_cat]) hl2) hkc hks)
theorem v_lstore (E : z_E y cc nL ret d K) {i : Nat} {x : Int64} (hd : decode cc pc = .ok (.lstore i, 2)) (hn : i + 1 < nL) (k : z_V K (pc + 2) (z_set2 i (.long x) ls) st h I J kc ks) : z_V K pc ls (.long x :: st) h I J kc ks := by
  obtain ⟨⟨p, l, e, R, s, m, args, below, meth, c⟩, Qf, G, mc, ms⟩ := K
  obtain ⟨hx, hb, hml, hr, hlocks, hin, hown, hts, hK, hSt, hbase, ht0, hRc, hRs, hfr, hlo⟩ := E
  intro H locs la hP hS hla hkc hks
  subst hml
  exact lv_lstore hx hb hd hla hn rfl (fun la2 hl2 => k H locs la2 hP hS (z_lc_set (v := .long x) (fun q => by rw [z_cv_cat]) hl2) hkc hks)
theorem v_lstore_n (E : z_E y cc nL ret d K) {i : Fin 4} {x : Int64} (hd : decode cc pc = .ok (.lstore_n i, 1)) (hn : (i : Nat) + 1 < nL) (k : z_V K (pc + 1) (z_set2 i (.long x) ls) st h I J kc ks) : z_V K pc ls (.long x :: st) h I J kc ks := by
  obtain ⟨⟨p, l, e, R, s, m, args, below, meth, c⟩, Qf, G, mc, ms⟩ := K
  obtain ⟨hx, hb, hml, hr, hlocks, hin, hown, hts, hK, hSt, hbase, ht0, hRc, hRs, hfr, hlo⟩ := E
  intro H locs la hP hS hla hkc hks
  subst hml
  exact lv_lstore_n hx hb hd rfl hla hn rfl (fun la2 hl2 => k H locs la2 hP hS (z_lc_set (v := .long x) (fun q => by rw [z_cv_cat]) hl2) hkc hks)
theorem v_iinc (E : z_E y cc nL ret d K) {i : Nat} {n : Int} {x v : Int32} (hd : decode cc pc = .ok (.iinc i n, 3)) (hg : z_at ls i = some (.int x)) (hv : x + Int32.ofInt n = v) (hn : i < nL) (k : z_V K (pc + 3) (z_set i (.int v) ls) st h I J kc ks) : z_V K pc ls st h I J kc ks := by
  obtain ⟨⟨p, l, e, R, s, m, args, below, meth, c⟩, Qf, G, mc, ms⟩ := K
  obtain ⟨hx, hb, hml, hr, hlocks, hin, hown, hts, hK, hSt, hbase, ht0, hRc, hRs, hfr, hlo⟩ := E
  intro H locs la hP hS hla hkc hks
  subst hml
  obtain ⟨j, hj⟩ := List.getElem?_of_mem (List.mem_map.mpr ⟨(i, .int x), z_at_mem hg, rfl⟩ : ((i, z_cv G (.int x)) ∈ z_lc G ls))
  exact lv_iinc (k := j) (x := x) (v := v) hx hb hd hla hj hv hn rfl (fun la2 hl2 => k H locs la2 hP hS (z_lc_set (v := .int v) (fun q => by rw [z_cv_cat]) hl2) hkc hks)
theorem v_iadd (E : z_E y cc nL ret d K) {x z : Int32} (hd : decode cc pc = .ok (.iadd, 1))  (k : z_V K (pc + 1) ls (.int (x + z) :: st) h I J kc ks) : z_V K pc ls (.int z :: .int x :: st) h I J kc ks := by
  obtain ⟨⟨p, l, e, R, s, m, args, below, meth, c⟩, Qf, G, mc, ms⟩ := K
  obtain ⟨hx, hb, hml, hr, hlocks, hin, hown, hts, hK, hSt, hbase, ht0, hRc, hRs, hfr, hlo⟩ := E
  intro H locs la hP hS hl hkc hks
  exact lv_iadd hx hb hd  (k H locs la hP hS hl hkc hks)
theorem v_isub (E : z_E y cc nL ret d K) {x z : Int32} (hd : decode cc pc = .ok (.isub, 1))  (k : z_V K (pc + 1) ls (.int (x - z) :: st) h I J kc ks) : z_V K pc ls (.int z :: .int x :: st) h I J kc ks := by
  obtain ⟨⟨p, l, e, R, s, m, args, below, meth, c⟩, Qf, G, mc, ms⟩ := K
  obtain ⟨hx, hb, hml, hr, hlocks, hin, hown, hts, hK, hSt, hbase, ht0, hRc, hRs, hfr, hlo⟩ := E
  intro H locs la hP hS hl hkc hks
  exact lv_isub hx hb hd  (k H locs la hP hS hl hkc hks)
theorem v_imul (E : z_E y cc nL ret d K) {x z : Int32} (hd : decode cc pc = .ok (.imul, 1))  (k : z_V K (pc + 1) ls (.int (x * z) :: st) h I J kc ks) : z_V K pc ls (.int z :: .int x :: st) h I J kc ks := by
  obtain ⟨⟨p, l, e, R, s, m, args, below, meth, c⟩, Qf, G, mc, ms⟩ := K
  obtain ⟨hx, hb, hml, hr, hlocks, hin, hown, hts, hK, hSt, hbase, ht0, hRc, hRs, hfr, hlo⟩ := E
  intro H locs la hP hS hl hkc hks
  exact lv_imul hx hb hd  (k H locs la hP hS hl hkc hks)
theorem v_iand (E : z_E y cc nL ret d K) {x z : Int32} (hd : decode cc pc = .ok (.iand, 1))  (k : z_V K (pc + 1) ls (.int (x &&& z) :: st) h I J kc ks) : z_V K pc ls (.int z :: .int x :: st) h I J kc ks := by
  obtain ⟨⟨p, l, e, R, s, m, args, below, meth, c⟩, Qf, G, mc, ms⟩ := K
  obtain ⟨hx, hb, hml, hr, hlocks, hin, hown, hts, hK, hSt, hbase, ht0, hRc, hRs, hfr, hlo⟩ := E
  intro H locs la hP hS hl hkc hks
  exact lv_iand hx hb hd  (k H locs la hP hS hl hkc hks)
theorem v_ior (E : z_E y cc nL ret d K) {x z : Int32} (hd : decode cc pc = .ok (.ior, 1))  (k : z_V K (pc + 1) ls (.int (x ||| z) :: st) h I J kc ks) : z_V K pc ls (.int z :: .int x :: st) h I J kc ks := by
  obtain ⟨⟨p, l, e, R, s, m, args, below, meth, c⟩, Qf, G, mc, ms⟩ := K
  obtain ⟨hx, hb, hml, hr, hlocks, hin, hown, hts, hK, hSt, hbase, ht0, hRc, hRs, hfr, hlo⟩ := E
  intro H locs la hP hS hl hkc hks
  exact lv_ior hx hb hd  (k H locs la hP hS hl hkc hks)
theorem v_ixor (E : z_E y cc nL ret d K) {x z : Int32} (hd : decode cc pc = .ok (.ixor, 1))  (k : z_V K (pc + 1) ls (.int (x ^^^ z) :: st) h I J kc ks) : z_V K pc ls (.int z :: .int x :: st) h I J kc ks := by
  obtain ⟨⟨p, l, e, R, s, m, args, below, meth, c⟩, Qf, G, mc, ms⟩ := K
  obtain ⟨hx, hb, hml, hr, hlocks, hin, hown, hts, hK, hSt, hbase, ht0, hRc, hRs, hfr, hlo⟩ := E
  intro H locs la hP hS hl hkc hks
  exact lv_ixor hx hb hd  (k H locs la hP hS hl hkc hks)
theorem v_ishl (E : z_E y cc nL ret d K) {x z : Int32} (hd : decode cc pc = .ok (.ishl, 1))  (k : z_V K (pc + 1) ls (.int (x <<< (z &&& 31)) :: st) h I J kc ks) : z_V K pc ls (.int z :: .int x :: st) h I J kc ks := by
  obtain ⟨⟨p, l, e, R, s, m, args, below, meth, c⟩, Qf, G, mc, ms⟩ := K
  obtain ⟨hx, hb, hml, hr, hlocks, hin, hown, hts, hK, hSt, hbase, ht0, hRc, hRs, hfr, hlo⟩ := E
  intro H locs la hP hS hl hkc hks
  exact lv_ishl hx hb hd  (k H locs la hP hS hl hkc hks)
theorem v_ishr (E : z_E y cc nL ret d K) {x z : Int32} (hd : decode cc pc = .ok (.ishr, 1))  (k : z_V K (pc + 1) ls (.int (x >>> (z &&& 31)) :: st) h I J kc ks) : z_V K pc ls (.int z :: .int x :: st) h I J kc ks := by
  obtain ⟨⟨p, l, e, R, s, m, args, below, meth, c⟩, Qf, G, mc, ms⟩ := K
  obtain ⟨hx, hb, hml, hr, hlocks, hin, hown, hts, hK, hSt, hbase, ht0, hRc, hRs, hfr, hlo⟩ := E
  intro H locs la hP hS hl hkc hks
  exact lv_ishr hx hb hd  (k H locs la hP hS hl hkc hks)
theorem v_iushr (E : z_E y cc nL ret d K) {x z : Int32} (hd : decode cc pc = .ok (.iushr, 1)) (k : z_V K (pc + 1) ls (.int ((x.toUInt32 >>> (z.toUInt32 &&& Int32.toUInt32 31)).toInt32) :: st) h I J kc ks) : z_V K pc ls (.int z :: .int x :: st) h I J kc ks := by
  obtain ⟨⟨p, l, e, R, s, m, args, below, meth, c⟩, Qf, G, mc, ms⟩ := K
  obtain ⟨hx, hb, hml, hr, hlocks, hin, hown, hts, hK, hSt, hbase, ht0, hRc, hRs, hfr, hlo⟩ := E
  intro H locs la hP hS hl hkc hks
  exact lv_iushr hx hb hd rfl (k H locs la hP hS hl hkc hks)
theorem v_ineg (E : z_E y cc nL ret d K) {x : Int32} (hd : decode cc pc = .ok (.ineg, 1))  (k : z_V K (pc + 1) ls (.int (-x) :: st) h I J kc ks) : z_V K pc ls (.int x :: st) h I J kc ks := by
  obtain ⟨⟨p, l, e, R, s, m, args, below, meth, c⟩, Qf, G, mc, ms⟩ := K
  obtain ⟨hx, hb, hml, hr, hlocks, hin, hown, hts, hK, hSt, hbase, ht0, hRc, hRs, hfr, hlo⟩ := E
  intro H locs la hP hS hl hkc hks
  exact lv_ineg hx hb hd  (k H locs la hP hS hl hkc hks)
theorem v_ladd (E : z_E y cc nL ret d K) {x z : Int64} (hd : decode cc pc = .ok (.ladd, 1))  (k : z_V K (pc + 1) ls (.long (x + z) :: st) h I J kc ks) : z_V K pc ls (.long z :: .long x :: st) h I J kc ks := by
  obtain ⟨⟨p, l, e, R, s, m, args, below, meth, c⟩, Qf, G, mc, ms⟩ := K
  obtain ⟨hx, hb, hml, hr, hlocks, hin, hown, hts, hK, hSt, hbase, ht0, hRc, hRs, hfr, hlo⟩ := E
  intro H locs la hP hS hl hkc hks
  exact lv_ladd hx hb hd  (k H locs la hP hS hl hkc hks)
theorem v_land (E : z_E y cc nL ret d K) {x z : Int64} (hd : decode cc pc = .ok (.land, 1))  (k : z_V K (pc + 1) ls (.long (x &&& z) :: st) h I J kc ks) : z_V K pc ls (.long z :: .long x :: st) h I J kc ks := by
  obtain ⟨⟨p, l, e, R, s, m, args, below, meth, c⟩, Qf, G, mc, ms⟩ := K
  obtain ⟨hx, hb, hml, hr, hlocks, hin, hown, hts, hK, hSt, hbase, ht0, hRc, hRs, hfr, hlo⟩ := E
  intro H locs la hP hS hl hkc hks
  exact lv_land hx hb hd  (k H locs la hP hS hl hkc hks)
theorem v_lor (E : z_E y cc nL ret d K) {x z : Int64} (hd : decode cc pc = .ok (.lor, 1))  (k : z_V K (pc + 1) ls (.long (x ||| z) :: st) h I J kc ks) : z_V K pc ls (.long z :: .long x :: st) h I J kc ks := by
  obtain ⟨⟨p, l, e, R, s, m, args, below, meth, c⟩, Qf, G, mc, ms⟩ := K
  obtain ⟨hx, hb, hml, hr, hlocks, hin, hown, hts, hK, hSt, hbase, ht0, hRc, hRs, hfr, hlo⟩ := E
  intro H locs la hP hS hl hkc hks
  exact lv_lor hx hb hd  (k H locs la hP hS hl hkc hks)
theorem v_lxor (E : z_E y cc nL ret d K) {x z : Int64} (hd : decode cc pc = .ok (.lxor, 1))  (k : z_V K (pc + 1) ls (.long (x ^^^ z) :: st) h I J kc ks) : z_V K pc ls (.long z :: .long x :: st) h I J kc ks := by
  obtain ⟨⟨p, l, e, R, s, m, args, below, meth, c⟩, Qf, G, mc, ms⟩ := K
  obtain ⟨hx, hb, hml, hr, hlocks, hin, hown, hts, hK, hSt, hbase, ht0, hRc, hRs, hfr, hlo⟩ := E
  intro H locs la hP hS hl hkc hks
  exact lv_lxor hx hb hd  (k H locs la hP hS hl hkc hks)
theorem v_lshl (E : z_E y cc nL ret d K) {x : Int64} {z : Int32} (hd : decode cc pc = .ok (.lshl, 1))  (k : z_V K (pc + 1) ls (.long (x <<< (z.toInt64 &&& 63)) :: st) h I J kc ks) : z_V K pc ls (.int z :: .long x :: st) h I J kc ks := by
  obtain ⟨⟨p, l, e, R, s, m, args, below, meth, c⟩, Qf, G, mc, ms⟩ := K
  obtain ⟨hx, hb, hml, hr, hlocks, hin, hown, hts, hK, hSt, hbase, ht0, hRc, hRs, hfr, hlo⟩ := E
  intro H locs la hP hS hl hkc hks
  exact lv_lshl hx hb hd rfl (k H locs la hP hS hl hkc hks)
theorem v_lshr (E : z_E y cc nL ret d K) {x : Int64} {z : Int32} (hd : decode cc pc = .ok (.lshr, 1))  (k : z_V K (pc + 1) ls (.long (x >>> (z.toInt64 &&& 63)) :: st) h I J kc ks) : z_V K pc ls (.int z :: .long x :: st) h I J kc ks := by
  obtain ⟨⟨p, l, e, R, s, m, args, below, meth, c⟩, Qf, G, mc, ms⟩ := K
  obtain ⟨hx, hb, hml, hr, hlocks, hin, hown, hts, hK, hSt, hbase, ht0, hRc, hRs, hfr, hlo⟩ := E
  intro H locs la hP hS hl hkc hks
  exact lv_lshr hx hb hd rfl (k H locs la hP hS hl hkc hks)
theorem v_i2l (E : z_E y cc nL ret d K) {x : Int32} (hd : decode cc pc = .ok (.i2l, 1))  (k : z_V K (pc + 1) ls (.long x.toInt64 :: st) h I J kc ks) : z_V K pc ls (.int x :: st) h I J kc ks := by
  obtain ⟨⟨p, l, e, R, s, m, args, below, meth, c⟩, Qf, G, mc, ms⟩ := K
  obtain ⟨hx, hb, hml, hr, hlocks, hin, hown, hts, hK, hSt, hbase, ht0, hRc, hRs, hfr, hlo⟩ := E
  intro H locs la hP hS hl hkc hks
  exact lv_i2l hx hb hd rfl (k H locs la hP hS hl hkc hks)
theorem v_l2i (E : z_E y cc nL ret d K) {x : Int64} (hd : decode cc pc = .ok (.l2i, 1))  (k : z_V K (pc + 1) ls (.int x.toInt32 :: st) h I J kc ks) : z_V K pc ls (.long x :: st) h I J kc ks := by
  obtain ⟨⟨p, l, e, R, s, m, args, below, meth, c⟩, Qf, G, mc, ms⟩ := K
  obtain ⟨hx, hb, hml, hr, hlocks, hin, hown, hts, hK, hSt, hbase, ht0, hRc, hRs, hfr, hlo⟩ := E
  intro H locs la hP hS hl hkc hks
  exact lv_l2i hx hb hd rfl (k H locs la hP hS hl hkc hks)
theorem v_lcmp (E : z_E y cc nL ret d K) {x z : Int64} (hd : decode cc pc = .ok (.lcmp, 1))  (k : z_V K (pc + 1) ls (.int (lg_cmp x z) :: st) h I J kc ks) : z_V K pc ls (.long z :: .long x :: st) h I J kc ks := by
  obtain ⟨⟨p, l, e, R, s, m, args, below, meth, c⟩, Qf, G, mc, ms⟩ := K
  obtain ⟨hx, hb, hml, hr, hlocks, hin, hown, hts, hK, hSt, hbase, ht0, hRc, hRs, hfr, hlo⟩ := E
  intro H locs la hP hS hl hkc hks
  exact W.lcmp hx hb hd  (k H locs la hP hS hl hkc hks)
theorem v_dup (E : z_E y cc nL ret d K) {v0 : Value} (hd : decode cc pc = .ok (.dup, 1)) (hc0 : v0.category = 1) (k : z_V K (pc + 1) ls (v0 :: v0 :: st) h I J kc ks) : z_V K pc ls (v0 :: st) h I J kc ks := by
  obtain ⟨⟨p, l, e, R, s, m, args, below, meth, c⟩, Qf, G, mc, ms⟩ := K
  obtain ⟨hx, hb, hml, hr, hlocks, hin, hown, hts, hK, hSt, hbase, ht0, hRc, hRs, hfr, hlo⟩ := E
  intro H locs la hP hS hl hkc hks
  exact lv_dup hx hb hd (by rw [z_cv_cat]; exact hc0) (k H locs la hP hS hl hkc hks)
theorem v_pop (E : z_E y cc nL ret d K) {v0 : Value} (hd : decode cc pc = .ok (.pop, 1)) (hc0 : v0.category = 1) (k : z_V K (pc + 1) ls st h I J kc ks) : z_V K pc ls (v0 :: st) h I J kc ks := by
  obtain ⟨⟨p, l, e, R, s, m, args, below, meth, c⟩, Qf, G, mc, ms⟩ := K
  obtain ⟨hx, hb, hml, hr, hlocks, hin, hown, hts, hK, hSt, hbase, ht0, hRc, hRs, hfr, hlo⟩ := E
  intro H locs la hP hS hl hkc hks
  exact lv_pop hx hb hd (by rw [z_cv_cat]; exact hc0) (k H locs la hP hS hl hkc hks)
theorem v_dup_x1 (E : z_E y cc nL ret d K) {v0 v1 : Value} (hd : decode cc pc = .ok (.dup_x1, 1)) (hc0 : v0.category = 1) (hc1 : v1.category = 1) (k : z_V K (pc + 1) ls (v0 :: v1 :: v0 :: st) h I J kc ks) : z_V K pc ls (v0 :: v1 :: st) h I J kc ks := by
  obtain ⟨⟨p, l, e, R, s, m, args, below, meth, c⟩, Qf, G, mc, ms⟩ := K
  obtain ⟨hx, hb, hml, hr, hlocks, hin, hown, hts, hK, hSt, hbase, ht0, hRc, hRs, hfr, hlo⟩ := E
  intro H locs la hP hS hl hkc hks
  exact lv_dup_x1 hx hb hd (by rw [z_cv_cat]; exact hc0) (by rw [z_cv_cat]; exact hc1) (k H locs la hP hS hl hkc hks)
theorem v_dup2 (E : z_E y cc nL ret d K) {v0 v1 : Value} (hd : decode cc pc = .ok (.dup2, 1)) (hc0 : v0.category = 1) (hc1 : v1.category = 1) (k : z_V K (pc + 1) ls (v0 :: v1 :: v0 :: v1 :: st) h I J kc ks) : z_V K pc ls (v0 :: v1 :: st) h I J kc ks := by
  obtain ⟨⟨p, l, e, R, s, m, args, below, meth, c⟩, Qf, G, mc, ms⟩ := K
  obtain ⟨hx, hb, hml, hr, hlocks, hin, hown, hts, hK, hSt, hbase, ht0, hRc, hRs, hfr, hlo⟩ := E
  intro H locs la hP hS hl hkc hks
  exact lv_dup2_11 hx hb hd (by rw [z_cv_cat]; exact hc0) (by rw [z_cv_cat]; exact hc1) (k H locs la hP hS hl hkc hks)
theorem v_icmp_eq (E : z_E y cc nL ret d K) {x z : Int32} {off : Int} {tgt : Nat} (hd : decode cc pc = .ok (.if_icmp .eq off, 3)) (ht : (pc : Int) + off = (tgt : Int)) (kt : x = z → z_V K tgt ls st h I J kc ks) (kf : ¬ x = z → z_V K (pc + 3) ls st h I J kc ks) : z_V K pc ls (.int z :: .int x :: st) h I J kc ks := by
  obtain ⟨⟨p, l, e, R, s, m, args, below, meth, c⟩, Qf, G, mc, ms⟩ := K
  obtain ⟨hx, hb, hml, hr, hlocks, hin, hown, hts, hK, hSt, hbase, ht0, hRc, hRs, hfr, hlo⟩ := E
  intro H locs la hP hS hl hkc hks
  exact lv_icmp_eq hx hb hd ht (fun q => kt q H locs la hP hS hl hkc hks) (fun q => kf q H locs la hP hS hl hkc hks)
theorem v_if_eq (E : z_E y cc nL ret d K) {x : Int32} {off : Int} {tgt : Nat} (hd : decode cc pc = .ok (.ifCond .eq off, 3)) (ht : (pc : Int) + off = (tgt : Int)) (kt : x = 0 → z_V K tgt ls st h I J kc ks) (kf : ¬ x = 0 → z_V K (pc + 3) ls st h I J kc ks) : z_V K pc ls (.int x :: st) h I J kc ks := by
  obtain ⟨⟨p, l, e, R, s, m, args, below, meth, c⟩, Qf, G, mc, ms⟩ := K
  obtain ⟨hx, hb, hml, hr, hlocks, hin, hown, hts, hK, hSt, hbase, ht0, hRc, hRs, hfr, hlo⟩ := E
  intro H locs la hP hS hl hkc hks
  exact lv_if_eq hx hb hd ht (fun q => kt q H locs la hP hS hl hkc hks) (fun q => kf q H locs la hP hS hl hkc hks)
theorem v_icmp_ne (E : z_E y cc nL ret d K) {x z : Int32} {off : Int} {tgt : Nat} (hd : decode cc pc = .ok (.if_icmp .ne off, 3)) (ht : (pc : Int) + off = (tgt : Int)) (kt : ¬ x = z → z_V K tgt ls st h I J kc ks) (kf : x = z → z_V K (pc + 3) ls st h I J kc ks) : z_V K pc ls (.int z :: .int x :: st) h I J kc ks := by
  obtain ⟨⟨p, l, e, R, s, m, args, below, meth, c⟩, Qf, G, mc, ms⟩ := K
  obtain ⟨hx, hb, hml, hr, hlocks, hin, hown, hts, hK, hSt, hbase, ht0, hRc, hRs, hfr, hlo⟩ := E
  intro H locs la hP hS hl hkc hks
  exact lv_icmp_ne hx hb hd ht (fun q => kt q H locs la hP hS hl hkc hks) (fun q => kf q H locs la hP hS hl hkc hks)
theorem v_if_ne (E : z_E y cc nL ret d K) {x : Int32} {off : Int} {tgt : Nat} (hd : decode cc pc = .ok (.ifCond .ne off, 3)) (ht : (pc : Int) + off = (tgt : Int)) (kt : ¬ x = 0 → z_V K tgt ls st h I J kc ks) (kf : x = 0 → z_V K (pc + 3) ls st h I J kc ks) : z_V K pc ls (.int x :: st) h I J kc ks := by
  obtain ⟨⟨p, l, e, R, s, m, args, below, meth, c⟩, Qf, G, mc, ms⟩ := K
  obtain ⟨hx, hb, hml, hr, hlocks, hin, hown, hts, hK, hSt, hbase, ht0, hRc, hRs, hfr, hlo⟩ := E
  intro H locs la hP hS hl hkc hks
  exact lv_if_ne hx hb hd ht (fun q => kt q H locs la hP hS hl hkc hks) (fun q => kf q H locs la hP hS hl hkc hks)
theorem v_icmp_lt (E : z_E y cc nL ret d K) {x z : Int32} {off : Int} {tgt : Nat} (hd : decode cc pc = .ok (.if_icmp .lt off, 3)) (ht : (pc : Int) + off = (tgt : Int)) (kt : x < z → z_V K tgt ls st h I J kc ks) (kf : ¬ x < z → z_V K (pc + 3) ls st h I J kc ks) : z_V K pc ls (.int z :: .int x :: st) h I J kc ks := by
  obtain ⟨⟨p, l, e, R, s, m, args, below, meth, c⟩, Qf, G, mc, ms⟩ := K
  obtain ⟨hx, hb, hml, hr, hlocks, hin, hown, hts, hK, hSt, hbase, ht0, hRc, hRs, hfr, hlo⟩ := E
  intro H locs la hP hS hl hkc hks
  exact lv_icmp_lt hx hb hd ht (fun q => kt q H locs la hP hS hl hkc hks) (fun q => kf q H locs la hP hS hl hkc hks)
theorem v_if_lt (E : z_E y cc nL ret d K) {x : Int32} {off : Int} {tgt : Nat} (hd : decode cc pc = .ok (.ifCond .lt off, 3)) (ht : (pc : Int) + off = (tgt : Int)) (kt : x < 0 → z_V K tgt ls st h I J kc ks) (kf : ¬ x < 0 → z_V K (pc + 3) ls st h I J kc ks) : z_V K pc ls (.int x :: st) h I J kc ks := by
  obtain ⟨⟨p, l, e, R, s, m, args, below, meth, c⟩, Qf, G, mc, ms⟩ := K
  obtain ⟨hx, hb, hml, hr, hlocks, hin, hown, hts, hK, hSt, hbase, ht0, hRc, hRs, hfr, hlo⟩ := E
  intro H locs la hP hS hl hkc hks
  exact lv_if_lt hx hb hd ht (fun q => kt q H locs la hP hS hl hkc hks) (fun q => kf q H locs la hP hS hl hkc hks)
theorem v_icmp_ge (E : z_E y cc nL ret d K) {x z : Int32} {off : Int} {tgt : Nat} (hd : decode cc pc = .ok (.if_icmp .ge off, 3)) (ht : (pc : Int) + off = (tgt : Int)) (kt : z ≤ x → z_V K tgt ls st h I J kc ks) (kf : ¬ z ≤ x → z_V K (pc + 3) ls st h I J kc ks) : z_V K pc ls (.int z :: .int x :: st) h I J kc ks := by
  obtain ⟨⟨p, l, e, R, s, m, args, below, meth, c⟩, Qf, G, mc, ms⟩ := K
  obtain ⟨hx, hb, hml, hr, hlocks, hin, hown, hts, hK, hSt, hbase, ht0, hRc, hRs, hfr, hlo⟩ := E
  intro H locs la hP hS hl hkc hks
  exact lv_icmp_ge hx hb hd ht (fun q => kt q H locs la hP hS hl hkc hks) (fun q => kf q H locs la hP hS hl hkc hks)
theorem v_if_ge (E : z_E y cc nL ret d K) {x : Int32} {off : Int} {tgt : Nat} (hd : decode cc pc = .ok (.ifCond .ge off, 3)) (ht : (pc : Int) + off = (tgt : Int)) (kt : 0 ≤ x → z_V K tgt ls st h I J kc ks) (kf : ¬ 0 ≤ x → z_V K (pc + 3) ls st h I J kc ks) : z_V K pc ls (.int x :: st) h I J kc ks := by
  obtain ⟨⟨p, l, e, R, s, m, args, below, meth, c⟩, Qf, G, mc, ms⟩ := K
  obtain ⟨hx, hb, hml, hr, hlocks, hin, hown, hts, hK, hSt, hbase, ht0, hRc, hRs, hfr, hlo⟩ := E
  intro H locs la hP hS hl hkc hks
  exact lv_if_ge hx hb hd ht (fun q => kt q H locs la hP hS hl hkc hks) (fun q => kf q H locs la hP hS hl hkc hks)
theorem v_icmp_gt (E : z_E y cc nL ret d K) {x z : Int32} {off : Int} {tgt : Nat} (hd : decode cc pc = .ok (.if_icmp .gt off, 3)) (ht : (pc : Int) + off = (tgt : Int)) (kt : z < x → z_V K tgt ls st h I J kc ks) (kf : ¬ z < x → z_V K (pc + 3) ls st h I J kc ks) : z_V K pc ls (.int z :: .int x :: st) h I J kc ks := by
  obtain ⟨⟨p, l, e, R, s, m, args, below, meth, c⟩, Qf, G, mc, ms⟩ := K
  obtain ⟨hx, hb, hml, hr, hlocks, hin, hown, hts, hK, hSt, hbase, ht0, hRc, hRs, hfr, hlo⟩ := E
  intro H locs la hP hS hl hkc hks
  exact lv_icmp_gt hx hb hd ht (fun q => kt q H locs la hP hS hl hkc hks) (fun q => kf q H locs la hP hS hl hkc hks)
theorem v_if_gt (E : z_E y cc nL ret d K) {x : Int32} {off : Int} {tgt : Nat} (hd : decode cc pc = .ok (.ifCond .gt off, 3)) (ht : (pc : Int) + off = (tgt : Int)) (kt : 0 < x → z_V K tgt ls st h I J kc ks) (kf : ¬ 0 < x → z_V K (pc + 3) ls st h I J kc ks) : z_V K pc ls (.int x :: st) h I J kc ks := by
  obtain ⟨⟨p, l, e, R, s, m, args, below, meth, c⟩, Qf, G, mc, ms⟩ := K
  obtain ⟨hx, hb, hml, hr, hlocks, hin, hown, hts, hK, hSt, hbase, ht0, hRc, hRs, hfr, hlo⟩ := E
  intro H locs la hP hS hl hkc hks
  exact lv_if_gt hx hb hd ht (fun q => kt q H locs la hP hS hl hkc hks) (fun q => kf q H locs la hP hS hl hkc hks)
theorem v_icmp_le (E : z_E y cc nL ret d K) {x z : Int32} {off : Int} {tgt : Nat} (hd : decode cc pc = .ok (.if_icmp .le off, 3)) (ht : (pc : Int) + off = (tgt : Int)) (kt : x ≤ z → z_V K tgt ls st h I J kc ks) (kf : ¬ x ≤ z → z_V K (pc + 3) ls st h I J kc ks) : z_V K pc ls (.int z :: .int x :: st) h I J kc ks := by
  obtain ⟨⟨p, l, e, R, s, m, args, below, meth, c⟩, Qf, G, mc, ms⟩ := K
  obtain ⟨hx, hb, hml, hr, hlocks, hin, hown, hts, hK, hSt, hbase, ht0, hRc, hRs, hfr, hlo⟩ := E
  intro H locs la hP hS hl hkc hks
  exact lv_icmp_le hx hb hd ht (fun q => kt q H locs la hP hS hl hkc hks) (fun q => kf q H locs la hP hS hl hkc hks)
theorem v_if_le (E : z_E y cc nL ret d K) {x : Int32} {off : Int} {tgt : Nat} (hd : decode cc pc = .ok (.ifCond .le off, 3)) (ht : (pc : Int) + off = (tgt : Int)) (kt : x ≤ 0 → z_V K tgt ls st h I J kc ks) (kf : ¬ x ≤ 0 → z_V K (pc + 3) ls st h I J kc ks) : z_V K pc ls (.int x :: st) h I J kc ks := by
  obtain ⟨⟨p, l, e, R, s, m, args, below, meth, c⟩, Qf, G, mc, ms⟩ := K
  obtain ⟨hx, hb, hml, hr, hlocks, hin, hown, hts, hK, hSt, hbase, ht0, hRc, hRs, hfr, hlo⟩ := E
  intro H locs la hP hS hl hkc hks
  exact lv_if_le hx hb hd ht (fun q => kt q H locs la hP hS hl hkc hks) (fun q => kf q H locs la hP hS hl hkc hks)
theorem v_goto (E : z_E y cc nL ret d K) {off : Int} {tgt : Nat} (hd : decode cc pc = .ok (.goto off, 3)) (ht : (pc : Int) + off = (tgt : Int)) (k : z_V K tgt ls st h I J kc ks) : z_V K pc ls st h I J kc ks := by
  obtain ⟨⟨p, l, e, R, s, m, args, below, meth, c⟩, Qf, G, mc, ms⟩ := K
  obtain ⟨hx, hb, hml, hr, hlocks, hin, hown, hts, hK, hSt, hbase, ht0, hRc, hRs, hfr, hlo⟩ := E
  intro H locs la hP hS hl hkc hks
  exact lv_goto hx hb hd ht (k H locs la hP hS hl hkc hks)
theorem v_tableOut (E : z_E y cc nL ret d K) {dflt lo hi : Int} {offs : Array Int} {len : Nat} {x : Int32} {tgt : Nat} (hd : decode cc pc = .ok (.tableswitch dflt lo hi offs, len)) (hx9 : x.toInt < lo ∨ hi < x.toInt) (ht : (pc : Int) + dflt = (tgt : Int)) (k : z_V K tgt ls st h I J kc ks) : z_V K pc ls (.int x :: st) h I J kc ks := by
  obtain ⟨⟨p, l, e, R, s, m, args, below, meth, c⟩, Qf, G, mc, ms⟩ := K
  obtain ⟨hx, hb, hml, hr, hlocks, hin, hown, hts, hK, hSt, hbase, ht0, hRc, hRs, hfr, hlo⟩ := E
  intro H locs la hP hS hl hkc hks
  exact lv_tableOut hx hb hd hx9 ht (k H locs la hP hS hl hkc hks)
theorem v_tableIn (E : z_E y cc nL ret d K) {dflt lo hi : Int} {offs : Array Int} {len : Nat} {x : Int32} {off : Int} {tgt : Nat} (hd : decode cc pc = .ok (.tableswitch dflt lo hi offs, len)) (h1 : ¬ x.toInt < lo) (h2 : ¬ hi < x.toInt) (ho : offs[(x.toInt - lo).toNat]? = some off) (ht : (pc : Int) + off = (tgt : Int)) (k : z_V K tgt ls st h I J kc ks) : z_V K pc ls (.int x :: st) h I J kc ks := by
  obtain ⟨⟨p, l, e, R, s, m, args, below, meth, c⟩, Qf, G, mc, ms⟩ := K
  obtain ⟨hx, hb, hml, hr, hlocks, hin, hown, hts, hK, hSt, hbase, ht0, hRc, hRs, hfr, hlo⟩ := E
  intro H locs la hP hS hl hkc hks
  exact lv_tableIn hx hb hd h1 h2 ho ht (k H locs la hP hS hl hkc hks)
theorem v_lookup (E : z_E y cc nL ret d K) {dflt : Int} {ps : Array (Int × Int)} {len : Nat} {x : Int32} {off : Int} {tgt : Nat} (hd : decode cc pc = .ok (.lookupswitch dflt ps, len)) (hp : (ps.toList.zip (ps.toList.drop 1)).all (fun (a, next) => a.1 < next.1) = true) (ho : Op.lookupswitch.offset ps.toList dflt x.toInt = off) (ht : (pc : Int) + off = (tgt : Int)) (k : z_V K tgt ls st h I J kc ks) : z_V K pc ls (.int x :: st) h I J kc ks := by
  obtain ⟨⟨p, l, e, R, s, m, args, below, meth, c⟩, Qf, G, mc, ms⟩ := K
  obtain ⟨hx, hb, hml, hr, hlocks, hin, hown, hts, hK, hSt, hbase, ht0, hRc, hRs, hfr, hlo⟩ := E
  intro H locs la hP hS hl hkc hks
  exact lv_lookup hx hb hd hp ho ht (k H locs la hP hS hl hkc hks)
/-- the locals by other words: fewer, in another order -/
theorem v_ls {ls2 : zL} (hq : ∀ q ∈ ls2, z_at ls q.1 = some q.2) (k : z_V K pc ls2 st h I J kc ks) : z_V K pc ls st h I J kc ks := by
  obtain ⟨⟨p, l, e, R, s, m, args, below, meth, c⟩, Qf, G, mc, ms⟩ := K
  intro H locs la hP hS hl hkc hks
  refine k H locs la hP hS ⟨hl.1, hl.2.1, fun q h9 => ?_⟩ hkc hks
  obtain ⟨q0, h0, rfl⟩ := List.mem_map.mp h9
  exact z_at_lc hl (hq q0 h0)
end ZROWS
