/-! ROWS of the store: fields, arrays, making, returning -/
def z_kd (ty : FieldType) : Nat := match ty with
  | .long => 1
  | .object _ => 2
  | .array _ => 2
  | _ => 0
theorem z_fv_0 {G : zG} {R : Nat → Nat → Option Nat} {I : zI} {J : zJ} {a j : Nat} {ty : FieldType} (h : z_kd ty = 0) : z_fv G R I J a j ty = .int (I a j) := by
  cases ty <;> first | rfl | (simp [z_kd] at h)
theorem z_fv_1 {G : zG} {R : Nat → Nat → Option Nat} {I : zI} {J : zJ} {a j : Nat} {ty : FieldType} (h : z_kd ty = 1) : z_fv G R I J a j ty = .long (J a j) := by
  cases ty <;> first | rfl | (simp [z_kd] at h)
theorem z_fv_2 {G : zG} {R : Nat → Nat → Option Nat} {I : zI} {J : zJ} {a j : Nat} {ty : FieldType} (h : z_kd ty = 2) : z_fv G R I J a j ty = va_rf ((R a j).map (z_ad G)) := by
  cases ty <;> first | rfl | (simp [z_kd] at h)
/-- a field's link: the class that reads, the pool's entry, the class that has it, its number there -/
def z_Fl (own : String) (idx ci k : Nat) : Prop := ci < 6 ∧ k < z_N ci ∧ ∃ ref, Cond.fieldLink own idx ref (z_T ci k).2.1 (z_T ci k).2.2.1 ∈ z_tbl ∧ (ref = (z_T ci k).1 ∨ Cond.sameField ref (z_T ci k).1 (z_T ci k).2.1 (z_T ci k).2.2.1 ∈ z_tbl)
theorem z_same {own : String} {idx ci k : Nat} {s : State} {args : Array Value} (hts : ∀ w ∈ z_tbl, w.before args s = true) (hf : z_Fl own idx ci k) : ∃ ref, (Cond.fieldLink own idx ref (z_T ci k).2.1 (z_T ci k).2.2.1).before args s = true ∧ ∀ x, s.fieldFound? (z_T ci k).1 (z_T ci k).2.1 (z_T ci k).2.2.1 = some x → s.fieldFound? ref (z_T ci k).2.1 (z_T ci k).2.2.1 = some x := by
  obtain ⟨-, -, ref, h1, h2⟩ := hf
  refine ⟨ref, hts _ h1, fun x hx => ?_⟩
  rcases h2 with rfl | h2
  · exact hx
  · exact u_same (hts _ h2) x hx
/-- the store after a write at one place -/
theorem z_P.put {G : zG} {h h' : zH} {I I' : zI} {J J' : zJ} {H H1 : Heap} {k : Nat} {e : va_E} (hP : z_P G h I J H) (hk : k < h.1) (hn : h'.1 = h.1) (ht : ∀ a, (h'.2.1 a).1 = (h.2.1 a).1) (ho : ∀ a, a ≠ k + 1 → z_cell G h' I' J' a = z_cell G h I J a) (he : e = z_cell G h' I' J' (k + 1)) (h1 : va_P G.1 vwCl ((z_ws G h I J).set k (G.2.2.2 + k, e)) H1) (hz : H1.size = H.size) : z_P G h' I' J' H1 := by
  subst he
  rw [z_ws_set hk hn ho] at h1
  exact ⟨h1, by rw [hz, hn]; exact hP.2.1, fun a ha => by rw [ht]; exact hP.2.2 a (by rw [← hn]; exact ha)⟩
section ZMEM
variable {y : MethodName} {cc : ByteArray} {nL d : Nat} {ret : Option FieldType} {K : zK} {pc : Nat} {ls : zL} {st : List Value} {h : zH} {I : zI} {J : zJ} {kc ks : Nat}
theorem z_getv (E : z_E y cc nL ret d K) {idx ci k a : Nat} {v : Value} (hf : z_Fl y.cls idx ci k) (hT : (h.2.1 a).1 = ci) (hv : ∀ G : zG, z_fv G h.2.2 I J a k (z_ty ci k) = z_cv G v) (hd : decode cc pc = .ok (.getfield idx, 3)) (kk : z_V K (pc + 3) ls (v :: st) h I J kc ks) : z_V K pc ls (.ref a :: st) h I J kc ks := by
  obtain ⟨⟨p, l, e, R, s, m, args, below, meth, c⟩, Qf, G, mc, ms⟩ := K
  obtain ⟨hx, hb, hml, hr, hlocks, hin, hown, hts, hK, hSt, hbase, ht0, hRc, hRs, hfr, hlo⟩ := E
  intro H locs la hP hS hl hkc hks
  obtain ⟨ref, hlink, hsame⟩ := z_same hts hf
  have hci := hf.1
  obtain ⟨k0, rfl, hk0, had, hget⟩ := z_place (a := a) hP (by rw [hT]; omega)
  rw [z_cell_o hT hci] at hget
  exact va_get (D := G.1) (cl := vwCl) (ci := ci) (C := z_R ci) (T := z_T ci) (N := z_N ci) hx hb hts (z_uin hci) hown hK hP.1 k0 hget (z_cl hci) k hf.2.1 hlink hsame (z_fs_get hf.2.1) hd (by rw [hv G]; exact kk H locs la hP hS hl hkc hks)
theorem v_getI (E : z_E y cc nL ret d K) {idx ci k a : Nat} (hf : z_Fl y.cls idx ci k) (hd : decode cc pc = .ok (.getfield idx, 3)) (hT : (h.2.1 a).1 = ci) (hk : z_kd (z_ty ci k) = 0) (kk : z_V K (pc + 3) ls (.int (I a k) :: st) h I J kc ks) : z_V K pc ls (.ref a :: st) h I J kc ks :=
  z_getv E hf hT (fun G => z_fv_0 hk) hd kk
theorem v_getJ (E : z_E y cc nL ret d K) {idx ci k a : Nat} (hf : z_Fl y.cls idx ci k) (hd : decode cc pc = .ok (.getfield idx, 3)) (hT : (h.2.1 a).1 = ci) (hk : z_kd (z_ty ci k) = 1) (kk : z_V K (pc + 3) ls (.long (J a k) :: st) h I J kc ks) : z_V K pc ls (.ref a :: st) h I J kc ks :=
  z_getv E hf hT (fun G => z_fv_1 hk) hd kk
theorem v_getR (E : z_E y cc nL ret d K) {idx ci k a b : Nat} (hf : z_Fl y.cls idx ci k) (hd : decode cc pc = .ok (.getfield idx, 3)) (hT : (h.2.1 a).1 = ci) (hk : z_kd (z_ty ci k) = 2) (hR : h.2.2 a k = some b) (kk : z_V K (pc + 3) ls (.ref b :: st) h I J kc ks) : z_V K pc ls (.ref a :: st) h I J kc ks :=
  z_getv E hf hT (fun G => by rw [z_fv_2 hk, hR]; rfl) hd kk
theorem z_putv (E : z_E y cc nL ret d K) {idx ci k a : Nat} {v : Value} {h' : zH} {I' : zI} {J' : zJ} (hf : z_Fl y.cls idx ci k) (hT : (h.2.1 a).1 = ci) (hn : h'.1 = h.1) (ht : h'.2.1 = h.2.1) (hrow : ∀ b, b ≠ a → h'.2.2 b = h.2.2 b ∧ I' b = I b ∧ J' b = J b) (hcol : ∀ (G : zG) (j : Nat), j ≠ k → z_fv G h'.2.2 I' J' a j (z_ty ci j) = z_fv G h.2.2 I J a j (z_ty ci j)) (hv : ∀ G : zG, z_fv G h'.2.2 I' J' a k (z_ty ci k) = z_cv G v) (hnar : ∀ G : zG, narrow (z_ty ci k) (z_cv G v) = z_cv G v) (hfit : ∀ G : zG, fits (z_ty ci k) (z_cv G v) = true) (hfin : (z_T ci k).2.2.2 = false ∨ ((z_T ci k).2.2.2 = true ∧ y.name = "<init>" ∧ (z_T ci k).1 = y.cls)) (hd : decode cc pc = .ok (.putfield idx, 3)) (kk : z_V K (pc + 3) ls st h' I' J' kc ks) : z_V K pc ls (v :: .ref a :: st) h I J kc ks := by
  obtain ⟨⟨p, l, e, R, s, m, args, below, meth, c⟩, Qf, G, mc, ms⟩ := K
  obtain ⟨hx, hb, hml, hr, hlocks, hin, hown, hts, hK, hSt, hbase, ht0, hRc, hRs, hfr, hlo⟩ := E
  intro H locs la hP hS hl hkc hks
  obtain ⟨ref, hlink, hsame⟩ := z_same hts hf
  have hci := hf.1
  obtain ⟨k0, rfl, hk0, had, hget⟩ := z_place (a := a) hP (by rw [hT]; omega)
  rw [z_cell_o hT hci] at hget
  have hset : (z_fs G h.2.2 I J (k0 + 1) ci).set k (z_cv G v) = z_fs G h'.2.2 I' J' (k0 + 1) ci := z_fs_set (hv G) (hcol G)
  have hkl : k < (z_fs G h.2.2 I J (k0 + 1) ci).length := by rw [z_fs_len]; exact hf.2.1
  have hT' : (h'.2.1 (k0 + 1)).1 = ci := by rw [ht]; exact hT
  have fin : ∀ (H1 : Heap) (locs1 : List Loc), va_P G.1 vwCl ((z_ws G h I J).set k0 (z_ad G (k0 + 1), .inr (ci, (z_fs G h.2.2 I J (k0 + 1) ci).set k (z_cv G v)))) H1 → va_S (z_A G) s.heap H1 locs1 → H1.size = H.size → W p l e R s m args below meth c H1 locs1 (mc - kc) (ms - ks) Qf (F0 m (pc + 3) la (st.map (z_cv G))) := by
    intro H1 locs1 hP1 hS1 hz
    refine kk H1 locs1 la (hP.put hk0 hn (fun a => by rw [ht]) (fun b hb => z_cell_eq (by rw [ht]) (hrow b hb).1 (hrow b hb).2.1 (hrow b hb).2.2) ?_ hP1 hz) hS1 hl hkc hks
    rw [hset, z_cell_o hT' hci]
  rcases hfin with hfin | ⟨hfin, hini, hdecl⟩
  · have hap := va_apart (own := y.cls) hts (z_uin hci) (z_ty ci) (z_tyok hci) (z_nm hci) hK (z_cl hci)
    obtain ⟨r, h1, cell, q1, q2, q3, q4⟩ := hP.1 k0 _ hget
    have hr : r = (z_R ci, z_T ci, z_N ci) := Option.some.inj (h1.symm.trans (z_cl hci))
    subst hr
    obtain ⟨hSs, hfc, kC, hkC, hkind⟩ := hK.1 ci _ (z_cl hci)
    obtain ⟨cf, kf, fi, f, hi, hsl⟩ := hSs k hf.2.1
    have hlay := hts _ (z_uin hci _ (u_in_lay hf.2.1))
    unfold u_lay at hlay
    rw [if_neg (by rw [hfin]; decide)] at hlay
    have hst := (u_facts hfc hkC (u_lays hts (z_uin hci) hf.2.1) hi).1
    have h6 := u_store hfc hkC hkind hlay hi (z_tyok hci k hf.2.1) (hnar G) (hfit G)
    refine W.putK hx hb (f := f) ⟨hown, hlink, ⟨_, _, _, hsame _ hi⟩, hst⟩ (by rw [q2]; exact h6) q1 q3 (by rw [hsl]; exact k2_hasslot (q4 k hf.2.1)) rfl rfl hd fun H' e1 e2 e3 => ?_
    rw [hsl] at e1 ⊢
    exact fin H' _ (hP.1.set (z_D G h I J) hget ⟨_, z_cl hci, t_OB.to (V := updV (vp_V _) k (z_cv G v)) ⟨_, e1, q2, q3, t_set q4 hap hf.2.1 (z_cv G v)⟩ (fun j _ => vp_updV_set hkl (z_cv G v) j)⟩ e3) (hS.put e2 e3 ((z_D G h I J).2 k0 _ hget)) e2
  · have hap := va_apart (own := y.cls) hts (z_uin hci) (z_ty ci) (z_tyok hci) (z_nm hci) hK (z_cl hci)
    obtain ⟨r, h1, cell, q1, q2, q3, q4⟩ := hP.1 k0 _ hget
    have hr : r = (z_R ci, z_T ci, z_N ci) := Option.some.inj (h1.symm.trans (z_cl hci))
    subst hr
    obtain ⟨hSs, hfc, kC, hkC, hkind⟩ := hK.1 ci _ (z_cl hci)
    obtain ⟨cf, kf, fi, f, hi, hsl⟩ := hSs k hf.2.1
    have hlay := hts _ (z_uin hci _ (u_in_lay hf.2.1))
    unfold u_lay at hlay
    rw [if_pos hfin] at hlay
    have hst := (u_facts hfc hkC (u_lays hts (z_uin hci) hf.2.1) hi).1
    have hcf : m.cls = cf := by
      obtain ⟨_, _, c', _, _, _, -, -, hf', -, -, -, hown2, -⟩ := Cond.laysFinal_spec hlay
      have e1 : c' = cf := by have := hi.symm.trans hf'; simp at this; exact this.1.symm
      rw [hdecl] at hown2
      rw [← e1]; exact Option.some.inj (hown.symm.trans hown2)
    have h6 := u_fits hfc hkC hkind (Or.inr hlay) hi (z_tyok hci k hf.2.1) (hnar G) (hfit G)
    refine W.putFinK hx hb hown hlink (hsame _ hi) hst hcf (hin.trans hini) (by rw [q2]; exact h6) q1 q3 (by rw [hsl]; exact k2_hasslot (q4 k hf.2.1)) rfl rfl hd fun H' e1 e2 e3 => ?_
    rw [hsl] at e1 ⊢
    exact fin H' _ (hP.1.set (z_D G h I J) hget ⟨_, z_cl hci, t_OB.to (V := updV (vp_V _) k (z_cv G v)) ⟨_, e1, q2, q3, t_set q4 hap hf.2.1 (z_cv G v)⟩ (fun j _ => vp_updV_set hkl (z_cv G v) j)⟩ e3) (hS.put e2 e3 ((z_D G h I J).2 k0 _ hget)) e2
theorem z_fv_I {G : zG} {R : Nat → Nat → Option Nat} {I : zI} {J : zJ} {a j k : Nat} {v : Int32} {ty : FieldType} (hj : j ≠ k) : z_fv G R (z_u I a k v) J a j ty = z_fv G R I J a j ty := by
  unfold z_fv
  rw [z_u_col hj]
theorem z_fv_J {G : zG} {R : Nat → Nat → Option Nat} {I : zI} {J : zJ} {a j k : Nat} {v : Int64} {ty : FieldType} (hj : j ≠ k) : z_fv G R I (z_u J a k v) a j ty = z_fv G R I J a j ty := by
  unfold z_fv
  rw [z_u_col hj]
theorem z_fv_R {G : zG} {R : Nat → Nat → Option Nat} {I : zI} {J : zJ} {a j k : Nat} {v : Option Nat} {ty : FieldType} (hj : j ≠ k) : z_fv G (z_u R a k v) I J a j ty = z_fv G R I J a j ty := by
  unfold z_fv
  rw [z_u_col hj]
/-- an int or a boolean into a field -/
theorem v_putI (E : z_E y cc nL ret d K) {idx ci k a : Nat} {v : Int32} (hf : z_Fl y.cls idx ci k) (hd : decode cc pc = .ok (.putfield idx, 3)) (hT : (h.2.1 a).1 = ci) (hk : z_kd (z_ty ci k) = 0) (hnar : narrow (z_ty ci k) (.int v) = .int v) (hfit : fits (z_ty ci k) (.int v) = true) (hfin : (z_T ci k).2.2.2 = false ∨ ((z_T ci k).2.2.2 = true ∧ y.name = "<init>" ∧ (z_T ci k).1 = y.cls)) (kk : z_V K (pc + 3) ls st h (z_u I a k v) J kc ks) : z_V K pc ls (.int v :: .ref a :: st) h I J kc ks :=
  z_putv E hf hT rfl rfl (fun b hb => ⟨rfl, z_u_row hb, rfl⟩) (fun G j hj => z_fv_I hj) (fun G => by rw [z_fv_0 hk, z_u_same]; rfl) (fun _ => hnar) (fun _ => hfit) hfin hd kk
theorem v_putJ (E : z_E y cc nL ret d K) {idx ci k a : Nat} {v : Int64} (hf : z_Fl y.cls idx ci k) (hd : decode cc pc = .ok (.putfield idx, 3)) (hT : (h.2.1 a).1 = ci) (hk : z_kd (z_ty ci k) = 1) (hnar : narrow (z_ty ci k) (.long v) = .long v) (hfit : fits (z_ty ci k) (.long v) = true) (hfin : (z_T ci k).2.2.2 = false ∨ ((z_T ci k).2.2.2 = true ∧ y.name = "<init>" ∧ (z_T ci k).1 = y.cls)) (kk : z_V K (pc + 3) ls st h I (z_u J a k v) kc ks) : z_V K pc ls (.long v :: .ref a :: st) h I J kc ks :=
  z_putv E hf hT rfl rfl (fun b hb => ⟨rfl, rfl, z_u_row hb⟩) (fun G j hj => z_fv_J hj) (fun G => by rw [z_fv_1 hk, z_u_same]; rfl) (fun _ => hnar) (fun _ => hfit) hfin hd kk
theorem v_putR (E : z_E y cc nL ret d K) {idx ci k a b : Nat} (hf : z_Fl y.cls idx ci k) (hd : decode cc pc = .ok (.putfield idx, 3)) (hT : (h.2.1 a).1 = ci) (hk : z_kd (z_ty ci k) = 2) (hnar : ∀ q, narrow (z_ty ci k) (.ref q) = .ref q) (hfit : ∀ q, fits (z_ty ci k) (.ref q) = true) (hfin : (z_T ci k).2.2.2 = false ∨ ((z_T ci k).2.2.2 = true ∧ y.name = "<init>" ∧ (z_T ci k).1 = y.cls)) (kk : z_V K (pc + 3) ls st (h.1, h.2.1, z_u h.2.2 a k (some b)) I J kc ks) : z_V K pc ls (.ref b :: .ref a :: st) h I J kc ks :=
  z_putv (h' := (h.1, h.2.1, z_u h.2.2 a k (some b))) E hf hT rfl rfl (fun b hb => ⟨z_u_row hb, rfl, rfl⟩) (fun G j hj => z_fv_R hj) (fun G => by rw [z_fv_2 hk]; show va_rf ((z_u h.2.2 a k (some b) a k).map (z_ad G)) = _; rw [z_u_same]; rfl) (fun _ => hnar _) (fun _ => hfit _) hfin hd kk
/-- an index as a number -/
theorem z_ix {i : Int32} {j n : Nat} (hi : i = nI j) (hj : j < n) (hn : n < 2 ^ 31) : vp_in i n ∧ i.toNatClampNeg = j := by
  subst hi
  exact ⟨vp_in_nI hj hn, nI_clamp (by omega)⟩
theorem v_iaload (E : z_E y cc nL ret d K) {a n j : Nat} {i : Int32} (hd : decode cc pc = .ok (.iaload, 1)) (hT : h.2.1 a = (10, n)) (hi : i = nI j) (hj : j < n) (hn : n < 2 ^ 31) (k : z_V K (pc + 1) ls (.int (I a j) :: st) h I J kc ks) : z_V K pc ls (.int i :: .ref a :: st) h I J kc ks := by
  obtain ⟨⟨p, l, e, R, s, m, args, below, meth, c⟩, Qf, G, mc, ms⟩ := K
  obtain ⟨hx, hb, hml, hr, hlocks, hin, hown, hts, hK, hSt, hbase, ht0, hRc, hRs, hfr, hlo⟩ := E
  intro H locs la hP hS hl hkc hks
  obtain ⟨k0, rfl, hk0, had, hget⟩ := z_place (a := a) hP (by rw [hT]; exact Nat.le_of_ble_eq_true rfl)
  rw [z_cell_i hT] at hget
  obtain ⟨h1, h2⟩ := z_ix hi hj hn
  exact va_iald hx hb hK hP.1 k0 0 hget rfl h1 hd (by rw [h2]; exact k H locs la hP hS hl hkc hks)
theorem v_baload (E : z_E y cc nL ret d K) {a n j : Nat} {i : Int32} (hd : decode cc pc = .ok (.baload, 1)) (hT : h.2.1 a = (12, n)) (hi : i = nI j) (hj : j < n) (hn : n < 2 ^ 31) (k : z_V K (pc + 1) ls (.int (I a j) :: st) h I J kc ks) : z_V K pc ls (.int i :: .ref a :: st) h I J kc ks := by
  obtain ⟨⟨p, l, e, R, s, m, args, below, meth, c⟩, Qf, G, mc, ms⟩ := K
  obtain ⟨hx, hb, hml, hr, hlocks, hin, hown, hts, hK, hSt, hbase, ht0, hRc, hRs, hfr, hlo⟩ := E
  intro H locs la hP hS hl hkc hks
  obtain ⟨k0, rfl, hk0, had, hget⟩ := z_place (a := a) hP (by rw [hT]; exact Nat.le_of_ble_eq_true rfl)
  rw [z_cell_z hT] at hget
  obtain ⟨h1, h2⟩ := z_ix hi hj hn
  exact va_zald hx hb hK hP.1 k0 2 hget rfl h1 hd (by rw [h2]; exact k H locs la hP hS hl hkc hks)
theorem v_laload (E : z_E y cc nL ret d K) {a n j : Nat} {i : Int32} (hd : decode cc pc = .ok (.laload, 1)) (hT : h.2.1 a = (11, n)) (hi : i = nI j) (hj : j < n) (hn : n < 2 ^ 31) (k : z_V K (pc + 1) ls (.long (J a j) :: st) h I J kc ks) : z_V K pc ls (.int i :: .ref a :: st) h I J kc ks := by
  obtain ⟨⟨p, l, e, R, s, m, args, below, meth, c⟩, Qf, G, mc, ms⟩ := K
  obtain ⟨hx, hb, hml, hr, hlocks, hin, hown, hts, hK, hSt, hbase, ht0, hRc, hRs, hfr, hlo⟩ := E
  intro H locs la hP hS hl hkc hks
  obtain ⟨k0, rfl, hk0, had, hget⟩ := z_place (a := a) hP (by rw [hT]; exact Nat.le_of_ble_eq_true rfl)
  rw [z_cell_l hT] at hget
  obtain ⟨h1, h2⟩ := z_ix hi hj hn
  exact va_lald hx hb hK hP.1 k0 1 hget rfl h1 hd (by rw [h2]; exact k H locs la hP hS hl hkc hks)
theorem v_aaload (E : z_E y cc nL ret d K) {a n j b : Nat} {i : Int32} (hd : decode cc pc = .ok (.aaload, 1)) (hT : h.2.1 a = (13, n)) (hi : i = nI j) (hj : j < n) (hn : n < 2 ^ 31) (hR : h.2.2 a j = some b) (k : z_V K (pc + 1) ls (.ref b :: st) h I J kc ks) : z_V K pc ls (.int i :: .ref a :: st) h I J kc ks := by
  obtain ⟨⟨p, l, e, R, s, m, args, below, meth, c⟩, Qf, G, mc, ms⟩ := K
  obtain ⟨hx, hb, hml, hr, hlocks, hin, hown, hts, hK, hSt, hbase, ht0, hRc, hRs, hfr, hlo⟩ := E
  intro H locs la hP hS hl hkc hks
  obtain ⟨k0, rfl, hk0, had, hget⟩ := z_place (a := a) hP (by rw [hT]; exact Nat.le_of_ble_eq_true rfl)
  rw [z_cell_q hT] at hget
  obtain ⟨h1, h2⟩ := z_ix hi hj hn
  exact va_aldq hx hb hK hP.1 k0 3 hget rfl h1 hd (by rw [h2, hR]; exact k H locs la hP hS hl hkc hks)
theorem z_S.size {G : zG} {h h' : zH} {I I' : zI} {J J' : zJ} {H H1 : Heap} (hP : z_P G h I J H) (h1 : H1.size = H.size) : H1.size = G.2.2.2 + h.1 := h1.trans hP.2.1
theorem v_iastore (E : z_E y cc nL ret d K) {a n j : Nat} {i x : Int32} (hd : decode cc pc = .ok (.iastore, 1)) (hT : h.2.1 a = (10, n)) (hi : i = nI j) (hj : j < n) (hn : n < 2 ^ 31) (k : z_V K (pc + 1) ls st h (z_u I a j x) J kc ks) : z_V K pc ls (.int x :: .int i :: .ref a :: st) h I J kc ks := by
  obtain ⟨⟨p, l, e, R, s, m, args, below, meth, c⟩, Qf, G, mc, ms⟩ := K
  obtain ⟨hx, hb, hml, hr, hlocks, hin, hown, hts, hK, hSt, hbase, ht0, hRc, hRs, hfr, hlo⟩ := E
  intro H locs la hP hS hl hkc hks
  obtain ⟨k0, rfl, hk0, had, hget⟩ := z_place (a := a) hP (by rw [hT]; exact Nat.le_of_ble_eq_true rfl)
  rw [z_cell_i hT] at hget
  obtain ⟨h1, h2⟩ := z_ix hi hj hn
  have ha := hP.1 k0 _ hget
  refine W.iast hx hb ha ((hK.2 0 _ rfl).1 n (fun j => .int (I (k0 + 1) j))) (fun q => by cases q) (by show ¬ (i < 0 ∨ (arrV _ _ _).slots.size ≤ _); rw [arrV_size]; exact h1) rfl rfl hd fun H1 e z oq => ?_
  have hA : va_at G.1 vwCl (z_ad G (k0 + 1), .inl (G.2.1.1, n, .inl (upd (I (k0 + 1)) j x))) H1 := by
    show H1[z_ad G (k0 + 1)]? = some (vp_cell _ _)
    rw [e]
    rw [vp_cell_i, vp_cell_i, arrV_store, h2]
    congr 2
    funext q
    by_cases hq : q = j
    · subst hq
      simp [updV, upd]
    · simp [updV, upd, hq]
  refine k H1 _ la (hP.put hk0 rfl (fun _ => rfl) (fun b hb => z_cell_eq rfl rfl (z_u_row hb) rfl) ?_ (hP.1.set (z_D G h I J) hget hA oq) z) (hS.put z oq ((z_D G h I J).2 k0 _ hget)) hl hkc hks
  rw [z_cell_i hT, z_u_upd]
theorem v_bastore (E : z_E y cc nL ret d K) {a n j : Nat} {i x : Int32} (hd : decode cc pc = .ok (.bastore, 1)) (hT : h.2.1 a = (12, n)) (hi : i = nI j) (hj : j < n) (hn : n < 2 ^ 31) (hx9 : x = 0 ∨ x = 1) (k : z_V K (pc + 1) ls st h (z_u I a j x) J kc ks) : z_V K pc ls (.int x :: .int i :: .ref a :: st) h I J kc ks := by
  obtain ⟨⟨p, l, e, R, s, m, args, below, meth, c⟩, Qf, G, mc, ms⟩ := K
  obtain ⟨hx, hb, hml, hr, hlocks, hin, hown, hts, hK, hSt, hbase, ht0, hRc, hRs, hfr, hlo⟩ := E
  intro H locs la hP hS hl hkc hks
  obtain ⟨k0, rfl, hk0, had, hget⟩ := z_place (a := a) hP (by rw [hT]; exact Nat.le_of_ble_eq_true rfl)
  rw [z_cell_z hT] at hget
  obtain ⟨h1, h2⟩ := z_ix hi hj hn
  have hnx : vp_nar .boolean x = x := by rcases hx9 with rfl | rfl <;> decide +kernel
  have ha := hP.1 k0 _ hget
  refine W.zast hx hb ha ((hK.2 2 _ rfl).1 n (fun j => .int (I (k0 + 1) j))) (fun q => by cases q) (by show ¬ (i < 0 ∨ (arrV _ _ _).slots.size ≤ _); rw [arrV_size]; exact h1) rfl rfl hd fun H1 e z oq => ?_
  have hA : va_at G.1 vwCl (z_ad G (k0 + 1), .inl (G.2.1.2.2.1, n, .inl (upd (I (k0 + 1)) j x))) H1 := by
    show H1[z_ad G (k0 + 1)]? = some (vp_cell _ _)
    rw [e]
    rw [vp_cell_i, vp_cell_i, arrV_store, h2]
    congr 2
    funext q
    by_cases hq : q = j
    · subst hq
      have : narrow .boolean (.int x) = .int (vp_nar .boolean x) := rfl
      simp [updV, upd, this, hnx]
    · simp [updV, upd, hq]
  refine k H1 _ la (hP.put hk0 rfl (fun _ => rfl) (fun b hb => z_cell_eq rfl rfl (z_u_row hb) rfl) ?_ (hP.1.set (z_D G h I J) hget hA oq) z) (hS.put z oq ((z_D G h I J).2 k0 _ hget)) hl hkc hks
  rw [z_cell_z hT, z_u_upd]
theorem v_lastore (E : z_E y cc nL ret d K) {a n j : Nat} {i : Int32} {x : Int64} (hd : decode cc pc = .ok (.lastore, 1)) (hT : h.2.1 a = (11, n)) (hi : i = nI j) (hj : j < n) (hn : n < 2 ^ 31) (k : z_V K (pc + 1) ls st h I (z_u J a j x) kc ks) : z_V K pc ls (.long x :: .int i :: .ref a :: st) h I J kc ks := by
  obtain ⟨⟨p, l, e, R, s, m, args, below, meth, c⟩, Qf, G, mc, ms⟩ := K
  obtain ⟨hx, hb, hml, hr, hlocks, hin, hown, hts, hK, hSt, hbase, ht0, hRc, hRs, hfr, hlo⟩ := E
  intro H locs la hP hS hl hkc hks
  obtain ⟨k0, rfl, hk0, had, hget⟩ := z_place (a := a) hP (by rw [hT]; exact Nat.le_of_ble_eq_true rfl)
  rw [z_cell_l hT] at hget
  obtain ⟨h1, h2⟩ := z_ix hi hj hn
  have ha := hP.1 k0 _ hget
  refine W.last hx hb ha ((hK.2 1 _ rfl).1 n (fun j => .long (J (k0 + 1) j))) (fun q => by cases q) (by show ¬ (i < 0 ∨ (arrV _ _ _).slots.size ≤ _); rw [arrV_size]; exact h1) rfl rfl hd fun H1 e z oq => ?_
  have hA : va_at G.1 vwCl (z_ad G (k0 + 1), .inl (G.2.1.2.1, n, .inr (.inl (vp_updL (J (k0 + 1)) j x)))) H1 := by
    show H1[z_ad G (k0 + 1)]? = some (vp_cell _ _)
    rw [e]
    rw [vp_cell_l, vp_cell_l, arrV_store, h2]
    congr 2
    funext q
    by_cases hq : q = j
    · subst hq
      simp [updV, vp_updL]
    · simp [updV, vp_updL, hq]
  refine k H1 _ la (hP.put hk0 rfl (fun _ => rfl) (fun b hb => z_cell_eq rfl rfl rfl (z_u_row hb)) ?_ (hP.1.set (z_D G h I J) hget hA oq) z) (hS.put z oq ((z_D G h I J).2 k0 _ hget)) hl hkc hks
  rw [z_cell_l hT, z_u_updL]
theorem v_arraylength (E : z_E y cc nL ret d K) {a n t : Nat} {v : Int32} (hd : decode cc pc = .ok (.arraylength, 1)) (hT : h.2.1 a = (t, n)) (h10 : 10 ≤ t) (h14 : t < 14) (hv : nI n = v) (k : z_V K (pc + 1) ls (.int v :: st) h I J kc ks) : z_V K pc ls (.ref a :: st) h I J kc ks := by
  obtain ⟨⟨p, l, e, R, s, m, args, below, meth, c⟩, Qf, G, mc, ms⟩ := K
  obtain ⟨hx, hb, hml, hr, hlocks, hin, hown, hts, hK, hSt, hbase, ht0, hRc, hRs, hfr, hlo⟩ := E
  intro H locs la hP hS hl hkc hks
  obtain ⟨k0, rfl, hk0, had, hget⟩ := z_place (a := a) hP (by rw [hT]; show t < 98; omega)
  rcases (show t = 10 ∨ t = 11 ∨ t = 12 ∨ t = 13 by omega) with rfl | rfl | rfl | rfl
  · rw [z_cell_i hT] at hget
    exact va_alen hx hb hK hP.1 k0 0 hget rfl hv hd (k H locs la hP hS hl hkc hks)
  · rw [z_cell_l hT] at hget
    exact va_alen hx hb hK hP.1 k0 1 hget rfl hv hd (k H locs la hP hS hl hkc hks)
  · rw [z_cell_z hT] at hget
    exact va_alen hx hb hK hP.1 k0 2 hget rfl hv hd (k H locs la hP hS hl hkc hks)
  · rw [z_cell_q hT] at hget
    exact va_alen hx hb hK hP.1 k0 3 hget rfl hv hd (k H locs la hP hS hl hkc hks)
/-- the length of the static empty array -/
theorem v_arraylength0 (E : z_E y cc nL ret d K) (hd : decode cc pc = .ok (.arraylength, 1)) (k : z_V K (pc + 1) ls (.int 0 :: st) h I J kc ks) : z_V K pc ls (.ref 0 :: st) h I J kc ks := by
  obtain ⟨⟨p, l, e, R, s, m, args, below, meth, c⟩, Qf, G, mc, ms⟩ := K
  obtain ⟨hx, hb, hml, hr, hlocks, hin, hown, hts, hK, hSt, hbase, ht0, hRc, hRs, hfr, hlo⟩ := E
  intro H locs la hP hS hl hkc hks
  exact va_tlen hx hb hSt.2.2 hS rfl hd (k H locs la hP hS hl hkc hks)
theorem v_getstatic0 (E : z_E y cc nL ret d K) {idx : Nat} (hd : decode cc pc = .ok (.getstatic idx, 3)) (hf : Cond.fieldLink y.cls idx "java/util/ArrayList" "DEFAULTCAPACITY_EMPTY_ELEMENTDATA" "[Ljava/lang/Object;" ∈ z_tbl) (k : z_V K (pc + 3) ls (.ref 0 :: st) h I J kc ks) : z_V K pc ls st h I J kc ks := by
  obtain ⟨⟨p, l, e, R, s, m, args, below, meth, c⟩, Qf, G, mc, ms⟩ := K
  obtain ⟨hx, hb, hml, hr, hlocks, hin, hown, hts, hK, hSt, hbase, ht0, hRc, hRs, hfr, hlo⟩ := E
  intro H locs la hP hS hl hkc hks
  exact va_gets hx hb hSt.2.1 hS hown (hts _ hf) (fun _ h9 => h9) hd (k H locs la hP hS hl hkc hks)
theorem z_ad_inj {G : zG} (h0 : G.2.2.1 < G.2.2.2) {a b : Nat} (h : z_ad G a = z_ad G b) : a = b := by
  cases a with
  | zero =>
    cases b with
    | zero => rfl
    | succ b => exact absurd h (by show ¬ G.2.2.1 = G.2.2.2 + b; omega)
  | succ a =>
    cases b with
    | zero => exact absurd h (by show ¬ G.2.2.2 + a = G.2.2.1; omega)
    | succ b => have h9 : G.2.2.2 + a = G.2.2.2 + b := h; omega
theorem v_acmp_eq (E : z_E y cc nL ret d K) {a b : Nat} {off : Int} {tgt : Nat} (hd : decode cc pc = .ok (.if_acmp .eq off, 3)) (ht : (pc : Int) + off = (tgt : Int)) (kt : a = b → z_V K tgt ls st h I J kc ks) (kf : ¬ a = b → z_V K (pc + 3) ls st h I J kc ks) : z_V K pc ls (.ref b :: .ref a :: st) h I J kc ks := by
  obtain ⟨⟨p, l, e, R, s, m, args, below, meth, c⟩, Qf, G, mc, ms⟩ := K
  obtain ⟨hx, hb, hml, hr, hlocks, hin, hown, hts, hK, hSt, hbase, ht0, hRc, hRs, hfr, hlo⟩ := E
  intro H locs la hP hS hl hkc hks
  exact lv_acmp_eq (rx := some (z_ad G a)) (ry := some (z_ad G b)) hx hb hd ht (fun q => kt (z_ad_inj ht0 (Option.some.inj q)) H locs la hP hS hl hkc hks) (fun q => kf (fun h9 => q (by rw [h9])) H locs la hP hS hl hkc hks)
theorem v_checkcast (E : z_E y cc nL ret d K) {idx a ci : Nat} (hd : decode cc pc = .ok (.checkcast idx, 3)) (hc : Cond.classLink y.cls idx (z_R ci) ∈ z_tbl) (hci : ci < 6) (hT : (h.2.1 a).1 = ci) (k : z_V K (pc + 3) ls (.ref a :: st) h I J kc ks) : z_V K pc ls (.ref a :: st) h I J kc ks := by
  obtain ⟨⟨p, l, e, R, s, m, args, below, meth, c⟩, Qf, G, mc, ms⟩ := K
  obtain ⟨hx, hb, hml, hr, hlocks, hin, hown, hts, hK, hSt, hbase, ht0, hRc, hRs, hfr, hlo⟩ := E
  intro H locs la hP hS hl hkc hks
  obtain ⟨k0, rfl, hk0, had, hget⟩ := z_place (a := a) hP (by rw [hT]; omega)
  rw [z_cell_o hT hci] at hget
  exact va_castS hx hb hown (hts _ hc) (hK.1 ci _ (z_cl hci)).2 (va_recv hK hP.1 (z_cl hci) hget) hd (k H locs la hP hS hl hkc hks)
end ZMEM
