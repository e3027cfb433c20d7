/-! ROWS: making, copying, calling, returning -/
def z_new (h : zH) (t len : Nat) : zH := (h.1 + 1, fun a => if a = h.1 + 1 then (t, len) else h.2.1 a, fun a => if a = h.1 + 1 then (fun _ => none) else h.2.2 a)
def z_zI (h : zH) (I : zI) : zI := z_w I (h.1 + 1) (fun _ => 0)
def z_zJ (h : zH) (J : zJ) : zJ := z_w J (h.1 + 1) (fun _ => 0)
theorem z_new_cell {G : zG} {h : zH} {I : zI} {J : zJ} {t len a : Nat} (ha : a ≤ h.1) : z_cell G (z_new h t len) (z_zI h I) (z_zJ h J) a = z_cell G h I J a := by
  have hne : a ≠ h.1 + 1 := by omega
  exact z_cell_eq (if_neg hne) (if_neg hne) (z_w_row hne) (z_w_row hne)
theorem z_P.new {G : zG} {h : zH} {I : zI} {J : zJ} {H H1 : Heap} {t len : Nat} {e : va_E} (ht : t < 98) (hP : z_P G h I J H) (he : z_cell G (z_new h t len) (z_zI h I) (z_zJ h J) (h.1 + 1) = e) (h1 : va_at G.1 vwCl (G.2.2.2 + h.1, e) H1) (hz : H1.size = G.2.2.2 + h.1 + 1) (ho : ∀ q, q < G.2.2.2 + h.1 → H1[q]? = H[q]?) : z_P G (z_new h t len) (z_zI h I) (z_zJ h J) H1 := by
  have hk : ∀ (k : Nat) (x : Nat × va_E), (z_ws G h I J)[k]? = some x → H1[x.1]? = H[x.1]? := fun k x hx => ho x.1 (by rw [← hP.2.1]; exact (hP.1 k x hx).lt)
  have h2 : va_P G.1 vwCl (z_ws G h I J ++ [(G.2.2.2 + h.1, e)]) H1 := by
    refine (hP.1.kept hk).app (fun k x hx => ?_)
    have hz : k < 1 := (List.getElem?_eq_some_iff.mp hx).1
    rw [show k = 0 by omega] at hx
    cases hx
    exact h1
  rw [← he] at h2
  rw [z_ws_push (h' := z_new h t len) rfl (fun a ha => z_new_cell ha)] at h2
  refine ⟨h2, by rw [hz]; rfl, fun a ha => ?_⟩
  have hne : a ≠ h.1 + 1 := by
    rcases ha with ha | ha
    · omega
    · have : h.1 + 1 < a := ha
      omega
  show 98 < ((if a = h.1 + 1 then (t, len) else h.2.1 a) : Nat × Nat).1
  rw [if_neg hne]
  refine hP.2.2 a ?_
  rcases ha with ha | ha
  · exact Or.inl ha
  · have : h.1 + 1 < a := ha
    exact Or.inr (by omega)
theorem z_put_S {A : Nat → Prop} {H0 H H1 : Heap} {locs : List Loc} {n : Nat} (hS : va_S A H0 H locs) (hn : H.size = n) (hz : H1.size = n + 1) (ho : ∀ q, q < n → H1[q]? = H[q]?) : va_S A H0 H1 locs :=
  ⟨Nat.le_trans hS.1 (by omega), fun x h1 h2 => (ho x (by rw [← hn]; exact Nat.lt_of_lt_of_le h1 hS.1)).trans (hS.2.1 x h1 h2), hS.2.2⟩
section ZNEW
variable {y : MethodName} {cc : ByteArray} {nL d : Nat} {ret : Option FieldType} {K : zK} {pc : Nat} {ls : zL} {st : List Value} {h : zH} {I : zI} {J : zJ} {kc ks : Nat}
theorem v_newI (E : z_E y cc nL ret d K) {n : Int32} {N : Nat} (hd : decode cc pc = .ok (.newarray .int, 2)) (hN : n = nI N) (hb9 : N ≤ 100000) (k : z_V K (pc + 2) ls (.ref (h.1 + 1) :: st) (z_new h 10 N) (z_zI h I) (z_zJ h J) kc ks) : z_V K pc ls (.int n :: st) h I J (kc + 1) (ks + N) := by
  obtain ⟨⟨p, l, e, R, s, m, args, below, meth, c⟩, Qf, G, mc, ms⟩ := K
  obtain ⟨hx, hb, hml, hr, hlocks, hin, hown, hts, hK, hSt, hbase, ht0, hRc, hRs, hfr, hlo⟩ := E
  intro H locs la hP hS hl hkc hks
  subst hN
  have hby : N * componentBytes (newarray.typeOf .int) ≤ 536870912 := Nat.le_trans (Nat.mul_le_mul_left N (show componentBytes (newarray.typeOf .int) ≤ 8 by decide)) (by omega)
  have har : (Cond.arrayClass (newarray.typeOf .int)).before args s = true := hts (.arrayClass .int) (z_mem (by decide +kernel) rfl)
  have h9 : s.vm.findClass ("[" ++ (FieldType.int).toString) = some G.2.1.1 := (hK.2 0 (G.2.1.1, .int) rfl).2
  refine va_newaK (atype := .int) (N := N) (h := G.2.2.2 + h.1) hx hb har rfl hd rfl (nI_pos (by omega)) (nI_clamp (by omega)) hby (by rw [hRc]; omega) (by rw [hRs]; omega) hP.2.1 fun H1 cA e1 z1 o1 hAr hNm => ?_
  have hc : cA = G.2.1.1 := Option.some.inj (hNm.symm.trans h9)
  subst hc
  have hc1 : mc - (kc + 1) + 1 = mc - kc := by omega
  have hs1 : ms - (ks + N) + N = ms - ks := by omega
  rw [hc1, hs1]
  refine k H1 locs la (hP.new (by omega) (z_cell_i (n := N) (by simp [z_new])) ?_ z1 o1) (z_put_S hS hP.2.1 z1 o1) hl (by omega) (by omega)
  show H1[_]? = some (vp_cell _ _)
  rw [vp_cell_i, e1]
  congr 2
  funext j
  simp [z_zI, z_w]
  rfl
theorem v_newJ (E : z_E y cc nL ret d K) {n : Int32} {N : Nat} (hd : decode cc pc = .ok (.newarray .long, 2)) (hN : n = nI N) (hb9 : N ≤ 100000) (k : z_V K (pc + 2) ls (.ref (h.1 + 1) :: st) (z_new h 11 N) (z_zI h I) (z_zJ h J) kc ks) : z_V K pc ls (.int n :: st) h I J (kc + 1) (ks + N) := by
  obtain ⟨⟨p, l, e, R, s, m, args, below, meth, c⟩, Qf, G, mc, ms⟩ := K
  obtain ⟨hx, hb, hml, hr, hlocks, hin, hown, hts, hK, hSt, hbase, ht0, hRc, hRs, hfr, hlo⟩ := E
  intro H locs la hP hS hl hkc hks
  subst hN
  have hby : N * componentBytes (newarray.typeOf .long) ≤ 536870912 := Nat.le_trans (Nat.mul_le_mul_left N (show componentBytes (newarray.typeOf .long) ≤ 8 by decide)) (by omega)
  have har : (Cond.arrayClass (newarray.typeOf .long)).before args s = true := hts (.arrayClass .long) (z_mem (by decide +kernel) rfl)
  have h9 : s.vm.findClass ("[" ++ (FieldType.long).toString) = some G.2.1.2.1 := (hK.2 1 (G.2.1.2.1, .long) rfl).2
  refine va_newaK (atype := .long) (N := N) (h := G.2.2.2 + h.1) hx hb har rfl hd rfl (nI_pos (by omega)) (nI_clamp (by omega)) hby (by rw [hRc]; omega) (by rw [hRs]; omega) hP.2.1 fun H1 cA e1 z1 o1 hAr hNm => ?_
  have hc : cA = G.2.1.2.1 := Option.some.inj (hNm.symm.trans h9)
  subst hc
  have hc1 : mc - (kc + 1) + 1 = mc - kc := by omega
  have hs1 : ms - (ks + N) + N = ms - ks := by omega
  rw [hc1, hs1]
  refine k H1 locs la (hP.new (by omega) (z_cell_l (n := N) (by simp [z_new])) ?_ z1 o1) (z_put_S hS hP.2.1 z1 o1) hl (by omega) (by omega)
  show H1[_]? = some (vp_cell _ _)
  rw [vp_cell_l, e1]
  congr 2
  funext j
  simp [z_zJ, z_w]
  rfl
theorem v_newZ (E : z_E y cc nL ret d K) {n : Int32} {N : Nat} (hd : decode cc pc = .ok (.newarray .boolean, 2)) (hN : n = nI N) (hb9 : N ≤ 100000) (k : z_V K (pc + 2) ls (.ref (h.1 + 1) :: st) (z_new h 12 N) (z_zI h I) (z_zJ h J) kc ks) : z_V K pc ls (.int n :: st) h I J (kc + 1) (ks + N) := by
  obtain ⟨⟨p, l, e, R, s, m, args, below, meth, c⟩, Qf, G, mc, ms⟩ := K
  obtain ⟨hx, hb, hml, hr, hlocks, hin, hown, hts, hK, hSt, hbase, ht0, hRc, hRs, hfr, hlo⟩ := E
  intro H locs la hP hS hl hkc hks
  subst hN
  have hby : N * componentBytes (newarray.typeOf .boolean) ≤ 536870912 := Nat.le_trans (Nat.mul_le_mul_left N (show componentBytes (newarray.typeOf .boolean) ≤ 8 by decide)) (by omega)
  have har : (Cond.arrayClass (newarray.typeOf .boolean)).before args s = true := hts (.arrayClass .boolean) (z_mem (by decide +kernel) rfl)
  have h9 : s.vm.findClass ("[" ++ (FieldType.boolean).toString) = some G.2.1.2.2.1 := (hK.2 2 (G.2.1.2.2.1, .boolean) rfl).2
  refine va_newaK (atype := .boolean) (N := N) (h := G.2.2.2 + h.1) hx hb har rfl hd rfl (nI_pos (by omega)) (nI_clamp (by omega)) hby (by rw [hRc]; omega) (by rw [hRs]; omega) hP.2.1 fun H1 cA e1 z1 o1 hAr hNm => ?_
  have hc : cA = G.2.1.2.2.1 := Option.some.inj (hNm.symm.trans h9)
  subst hc
  have hc1 : mc - (kc + 1) + 1 = mc - kc := by omega
  have hs1 : ms - (ks + N) + N = ms - ks := by omega
  rw [hc1, hs1]
  refine k H1 locs la (hP.new (by omega) (z_cell_z (n := N) (by simp [z_new])) ?_ z1 o1) (z_put_S hS hP.2.1 z1 o1) hl (by omega) (by omega)
  show H1[_]? = some (vp_cell _ _)
  rw [vp_cell_i, e1]
  congr 2
  funext j
  simp [z_zI, z_w]
  rfl
theorem v_newQ (E : z_E y cc nL ret d K) {n : Int32} {N idx : Nat} (hd : decode cc pc = .ok (.anewarray idx, 3)) (hc : Cond.classLink y.cls idx "java/lang/Object" ∈ z_tbl) (hN : n = nI N) (hb9 : N ≤ 100000) (k : z_V K (pc + 3) ls (.ref (h.1 + 1) :: st) (z_new h 13 N) (z_zI h I) (z_zJ h J) kc ks) : z_V K pc ls (.int n :: st) h I J (kc + 1) (ks + N) := by
  obtain ⟨⟨p, l, e, R, s, m, args, below, meth, c⟩, Qf, G, mc, ms⟩ := K
  obtain ⟨hx, hb, hml, hr, hlocks, hin, hown, hts, hK, hSt, hbase, ht0, hRc, hRs, hfr, hlo⟩ := E
  intro H locs la hP hS hl hkc hks
  have hN9 : n.toNatClampNeg = N := by rw [hN]; exact nI_clamp (by omega)
  refine W.anew hx hb hown (hts _ hc) hSt.1.2.2.2.use rfl hd rfl (by rw [hN]; exact nI_pos (by omega)) (by rw [hN9]; omega) (by rw [hRc]; omega) (by rw [hRs, hN9]; omega) fun cA kA comp f1 f2 f3 f4 => ?_
  rw [hN9]
  generalize hH1 : H.push ({ cls := cA, slots := Array.replicate N .null, vm := .none } : Cell) = H1
  have z1 : H1.size = G.2.2.2 + h.1 + 1 := by rw [← hH1, Array.size_push, hP.2.1]
  have e1 : H1[G.2.2.2 + h.1]? = some (arrV cA N (fun _ => .null)) := by rw [← hH1, ← hP.2.1, Array.getElem?_push_size, ← arrV_new]
  have o1 : ∀ q : Nat, q < G.2.2.2 + h.1 → H1[q]? = H[q]? := fun q hq => by rw [← hH1, Array.getElem?_push, if_neg (by rw [hP.2.1]; omega)]
  obtain ⟨kA2, comp2, -, -, -, hnm2⟩ := (hK.2 3 _ rfl).2
  have hc : cA = G.2.1.2.2.2 := Option.some.inj (f1.symm.trans hnm2)
  subst hc
  have hc1 : mc - (kc + 1) + 1 = mc - kc := by omega
  have hs1 : ms - (ks + N) + N = ms - ks := by omega
  rw [hc1, hs1, hP.2.1]
  refine k H1 locs la (hP.new (by omega) (z_cell_q (n := N) (by simp [z_new])) ?_ z1 o1) (z_put_S hS hP.2.1 z1 o1) hl (by omega) (by omega)
  show H1[_]? = some (vp_cell _ _)
  rw [vp_cell_q, e1]
  congr 2
  funext j
  simp [z_new]
  rfl
theorem z_def {ty : FieldType} {G : zG} {h : zH} {I : zI} {J : zJ} {j t len : Nat} (hk : ty = .int ∨ ty = .long ∨ ty = .boolean ∨ z_kd ty = 2) : defaultValue ty = z_fv G (z_new h t len).2.2 (z_zI h I) (z_zJ h J) (h.1 + 1) j ty := by
  rcases hk with rfl | rfl | rfl | hk
  · simp [z_fv, z_zI, z_w]
    rfl
  · simp [z_fv, z_zJ, z_w]
    rfl
  · simp [z_fv, z_zI, z_w]
    rfl
  · rw [z_fv_2 hk]
    have : (z_new h t len).2.2 (h.1 + 1) j = none := by simp [z_new]
    rw [this]
    cases ty <;> first | rfl | (simp [z_kd] at hk)
theorem v_new (E : z_E y cc nL ret d K) {idx ci : Nat} (hd : decode cc pc = .ok (.new idx, 3)) (hci : ci < 6) (hc : Cond.classLink y.cls idx (z_R ci) ∈ z_tbl) (hi : Cond.instantiable (z_R ci) (z_N ci) ∈ z_tbl) (hini : Cond.initialized (z_R ci) ∈ z_tbl) (hty : ∀ j, j < z_N ci → (z_ty ci j = .int ∨ z_ty ci j = .long ∨ z_ty ci j = .boolean ∨ z_kd (z_ty ci j) = 2)) (k : z_V K (pc + 3) ls (.ref (h.1 + 1) :: st) (z_new h ci 0) (z_zI h I) (z_zJ h J) kc ks) : z_V K pc ls st h I J (kc + 1) (ks + z_N ci) := by
  obtain ⟨⟨p, l, e, R, s, m, args, below, meth, c⟩, Qf, G, mc, ms⟩ := K
  obtain ⟨hx, hb, hml, hr, hlocks, hin, hown, hts, hK, hSt, hbase, ht0, hRc, hRs, hfr, hlo⟩ := E
  intro H locs la hP hS hl hkc hks
  have hKn := hK.1 ci _ (z_cl hci)
  refine W.newcK (h := G.2.2.2 + h.1) hx hb hown (hts _ hc) (hts _ hi) (hts _ hini) rfl hd (by rw [hRc]; omega) (by rw [hRs]; omega) hKn.2.1 hP.2.1 fun H1 kC hkC e1 z1 o1 => ?_
  have hc1 : mc - (kc + 1) + 1 = mc - kc := by omega
  have hs1 : ms - (ks + z_N ci) + z_N ci = ms - ks := by omega
  rw [hc1, hs1]
  refine k H1 locs la (hP.new (by omega) (z_cell_o (ci := ci) (by simp [z_new]) hci) ?_ z1 o1) (z_put_S hS hP.2.1 z1 o1) hl (by omega) (by omega)
  refine ⟨_, z_cl hci, (u_born (z_ty ci) hts (z_uin hci) hKn hkC e1 (z_tyok hci)).to fun j hj => ?_⟩
  show defaultValue (z_ty ci j) = vp_V _ j
  unfold vp_V
  rw [List.getD_eq_getElem?_getD, z_fs_get hj]
  exact z_def (hty j hj)
theorem v_aastore (E : z_E y cc nL ret d K) {a n j b : Nat} {i : Int32} (hd : decode cc pc = .ok (.aastore, 1)) (hT : h.2.1 a = (13, n)) (hTb : (h.2.1 b).1 = 2) (hi : i = nI j) (hj : j < n) (hn : n < 2 ^ 31) (k : z_V K (pc + 1) ls st (h.1, h.2.1, z_u h.2.2 a j (some b)) I J kc ks) : z_V K pc ls (.ref b :: .int i :: .ref a :: st) h I J kc ks := by
  obtain ⟨⟨p, l, e, R, s, m, args, below, meth, c⟩, Qf, G, mc, ms⟩ := K
  obtain ⟨hx, hb, hml, hr, hlocks, hin, hown, hts, hK, hSt, hbase, ht0, hRc, hRs, hfr, hlo⟩ := E
  intro H locs la hP hS hl hkc hks
  have hci : 2 < 6 := by decide
  obtain ⟨kb, rfl, hkb, hadb, hgetb⟩ := z_place (a := b) hP (by rw [hTb]; omega)
  rw [z_cell_o hTb hci] at hgetb
  obtain ⟨k0, rfl, hk0, had, hget⟩ := z_place (a := a) hP (by rw [hT]; exact Nat.le_of_ble_eq_true rfl)
  rw [z_cell_q hT] at hget
  obtain ⟨h1, h2⟩ := z_ix hi hj hn
  have hlt : i.toNatClampNeg < n := by rw [h2]; exact hj
  have h0 : ¬ i < 0 := fun q => h1 (Or.inl q)
  obtain ⟨r', hr', cellV, g1, g2, g3, -⟩ := hP.1 kb _ hgetb
  have hcls := (hK.1 2 _ (z_cl hci)).2
  obtain ⟨kA, comp, k1, k2, k3, -⟩ := (hK.2 3 _ rfl).2
  obtain ⟨kE, hkE, -⟩ := Vm.findClass_spec k3
  obtain ⟨c0, t1, f1, f2, f3⟩ := Cond.castable_spec (va_Nw.use (A := args) rfl hSt.1.1)
  cases hcls.1.symm.trans f1
  cases k3.symm.trans f2
  obtain ⟨kC, hkC, -⟩ := hcls.2
  refine W.aast hx hb (hP.1 k0 _ hget) (fun q h => by cases h) (fun h => by cases h) k1 k2 rfl hkE ⟨h0, by show _ < (arrV _ _ _).slots.size; rw [arrV_size]; exact hlt⟩ g1 (fun q h => by rw [g3] at h; cases h) (by rw [g2]; exact hkC) (by rw [g2]; exact f3) rfl rfl hd fun H1 e z oq => ?_
  have hA : va_at G.1 vwCl (z_ad G (k0 + 1), .inl (G.2.1.2.2.2, n, .inr (.inr (.inr (.inr (fun q => (z_u h.2.2 (k0 + 1) j (some (kb + 1)) (k0 + 1) q).map (z_ad G))))))) H1 := by
    show H1[z_ad G (k0 + 1)]? = some (vp_cell _ _)
    rw [e]
    rw [vp_cell_q, vp_cell_q, arrV_store, h2]
    congr 2
    funext q
    by_cases hq : q = j
    · subst hq
      simp [updV, z_u, va_rf]
    · simp [updV, z_u, hq]
  refine k H1 _ la (hP.put (h' := (h.1, h.2.1, z_u h.2.2 (k0 + 1) j (some (kb + 1)))) hk0 rfl (fun _ => rfl) (fun b hb => z_cell_eq rfl (z_u_row hb) rfl rfl) ?_ (hP.1.set (z_D G h I J) hget hA oq) z) (hS.put z oq ((z_D G h I J).2 k0 _ hget)) hl hkc hks
  rw [z_cell_q (h := (h.1, h.2.1, z_u h.2.2 (k0 + 1) j (some (kb + 1)))) hT]
/-- Object's constructor -/
theorem v_objInit (E : z_E y cc nL ret (d + 1) K) {idx a : Nat} (hd : decode cc pc = .ok (.invokespecial idx, 3)) (hlk : Cond.methodLink y.cls idx objectInit ∈ z_tbl) (hst : (st.map fun v => v.category).sum ≤ 8) (k : z_V K (pc + 3) ls st h I J kc ks) : z_V K pc ls (.ref a :: st) h I J kc ks := by
  obtain ⟨⟨p, l, e, R, s, m, args, below, meth, c⟩, Qf, G, mc, ms⟩ := K
  obtain ⟨hx, hb, hml, hr, hlocks, hin, hown, hts, hK, hSt, hbase, ht0, hRc, hRs, hfr, hlo⟩ := E
  intro H locs la hP hS hl hkc hks
  have hcat : ((st.map (z_cv G)).map fun v => v.category) = st.map fun v => v.category := by
    rw [List.map_map]
    congr 1
    funext v
    exact z_cv_cat G v
  refine W.objInit hx hb hown (hts _ hlk) (hts (.instanceMethod objectInit) (z_mem (by decide +kernel) rfl)) (hts (.code objectInit ⟨#[0xb1]⟩ 1 none) (z_mem (by decide +kernel) rfl)) rfl hl.1 rfl hd (by omega) ?_ (k H locs la hP hS hl hkc hks)
  show 2 * 0 + _ + 12 ≤ R.locals
  rw [hcat]
  omega
end ZNEW
