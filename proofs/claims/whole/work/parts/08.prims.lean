/-! NEW CELLS, COPIES, TABLES, STRINGS, Math -/
section PRIMS
variable {X : cxT} {own : String} {cc : ByteArray} {d C S cells slots pc : Nat} {ls : List (Option Value)} {st : List Value} {M : mM}
theorem x_olds {xt : Nat → Nat} {L : List Nat} {q : Nat} {st : List Value} (h : ∀ v ∈ st, x_old L.length v) : st.map (cv xt (L ++ [q])) = st.map (cv xt L) := List.map_congr_left (fun v hv => cv_old (List.prefix_append L [q]) (h v hv))
theorem x_ad_new {xt : Nat → Nat} {L : List Nat} {q : Nat} (h : L.length < 1000) : x_ad xt (L ++ [q]) L.length = q := by
  unfold x_ad
  rw [if_pos h]
  simp [List.getD_eq_getElem?_getD]
theorem x_ad_old {xt : Nat → Nat} {L : List Nat} {q k : Nat} (h : k < L.length) (hL : L.length < 1000) : x_ad xt (L ++ [q]) k = x_ad xt L k := by
  unfold x_ad
  rw [if_pos (by omega), if_pos (by omega), x_pre_get (List.prefix_append L [q]) h]
/-- the cells' list when one comes -/
theorem x_ws_new {ty : Nat → ClassId} {xt : Nat → Nat} {L : List Nat} {M : mM} {q k n : Nat} {e : va_E} (hL : L.length = m_n M) (h1 : m_n M < 1000) (hw : ∀ a j r, a < m_n M → m_r M a j = some r → r < m_n M) (he : x_cl ty (x_ad xt (L ++ [q])) (m_new M k n) (m_n M) = e) : x_ws ty xt L M ++ [(q, e)] = x_ws ty xt (L ++ [q]) (m_new M k n) := by
  apply List.ext_getElem?
  intro j
  have hlen : (x_ws ty xt L M).length = M.1 := by simp [x_ws]
  have hL : L.length = M.1 := hL
  have h1 : M.1 < 1000 := h1
  by_cases hj : j < M.1
  · rw [List.getElem?_append_left (by rw [hlen]; exact hj), x_ws_at hj, x_ws_at (show j < m_n (m_new M k n) from Nat.lt_succ_of_lt hj), x_ad_old (by omega) (by omega)]
    congr 2
    unfold x_cl
    have e1 : m_k (m_new M k n) j = m_k M j := by show (if j = M.1 then k else M.2.1 j) = _; rw [if_neg (by omega)]
    have e2 : m_l (m_new M k n) j = m_l M j := by show (if j = M.1 then n else M.2.2.1 j) = _; rw [if_neg (by omega)]
    have e3 : m_i (m_new M k n) j = m_i M j := u1_ne _ _ (by omega)
    have e4 : m_j (m_new M k n) j = m_j M j := u1_ne _ _ (by omega)
    have e5 : m_r (m_new M k n) j = m_r M j := u1_ne _ _ (by omega)
    have e6 : ∀ i, (m_r M j i).map (x_ad xt L) = (m_r M j i).map (x_ad xt (L ++ [q])) := by
      intro i
      cases hr : m_r M j i with
      | none => rfl
      | some r => simp only [Option.map_some]; rw [x_ad_old (by rw [hL]; exact hw j i r hj hr) (by omega)]
    rw [e1, e2, e3, e4, e5]
    simp only [e6]
  · by_cases hj2 : j = M.1
    · subst hj2
      rw [List.getElem?_append_right (by omega), hlen, Nat.sub_self, x_ws_at (show M.1 < m_n (m_new M k n) from Nat.lt_succ_self _)]
      have he : x_cl ty (x_ad xt (L ++ [q])) (m_new M k n) M.1 = e := he
      have e7 := x_ad_new (xt := xt) (q := q) (show L.length < 1000 by omega)
      rw [hL] at e7
      rw [he, e7]
      rfl
    · rw [List.getElem?_eq_none (by simp [hlen]; omega), List.getElem?_eq_none (by simp only [x_ws, List.length_map, List.length_range]; show M.1 + 1 ≤ j; omega)]
theorem PR.new {D : va_G} {ty : Nat → ClassId} {xt : Nat → Nat} {A : Nat → Prop} {L : List Nat} {M : mM} {H H1 : Heap} {q k n : Nat} {e : va_E} (h : PR D ty xt A L M H) (h1 : m_n M < 1000) (he : x_cl ty (x_ad xt (L ++ [q])) (m_new M k n) (m_n M) = e) (h2 : va_P D vwCl (x_ws ty xt L M ++ [(q, e)]) H1) (h3 : va_D A (x_ws ty xt L M ++ [(q, e)])) : PR D ty xt A (L ++ [q]) (m_new M k n) H1 := by
  rw [x_ws_new h.1 h1 h.2.2.1 he] at h2 h3
  have h1 : M.1 < 1000 := h1
  refine ⟨by rw [List.length_append, h.1]; rfl, by show M.1 + 1 ≤ 1000; omega, ?_, h2, h3⟩
  intro a j r ha hr
  have hr : u1 (m_r M) M.1 (fun _ => none) a j = some r := hr
  show r < M.1 + 1
  unfold u1 at hr
  split at hr
  · cases hr
  · next hne =>
    have ha : a < M.1 + 1 := ha
    have := h.2.2.1 a j r (show a < M.1 by omega) hr
    show r < M.1 + 1
    have : r < M.1 := this
    omega
theorem x_lr_new {xt : Nat → Nat} {L : List Nat} {nL q : Nat} {lc : Array Slot} {ls : List (Option Value)} (hl : LR xt L nL lc ls) (h : ∀ (i : Nat) (v : Value), ls[i]? = some (some v) → x_old L.length v) : LR xt (L ++ [q]) nL lc ls :=
  ⟨hl.1, hl.2.1, fun i v hi => by rw [cv_old (List.prefix_append L [q]) (h i v hi)]; exact hl.2.2 i v hi⟩
/-- a new object of class ci -/
theorem wp_new {idx ci N : Nat} {C0 : String} {T : u_T} {ty0 : Nat → FieldType} (hX : Good X own cc d C S) (hc : CF ci C0 T N ty0) (hw : Cond.classLink own idx C0 ∈ x_tbl) (hw2 : Cond.instantiable C0 N ∈ x_tbl) (hw3 : Cond.initialized C0 ∈ x_tbl) (hd : decode cc pc = .ok (.new idx, 3)) (hM : m_n M < 1000) (hcells : cells + 1 ≤ C) (hslots : slots + N ≤ S) (ho1 : ∀ v ∈ st, x_old (m_n M) v) (ho2 : ∀ (i : Nat) (v : Value), ls[i]? = some (some v) → x_old (m_n M) v)
    (kk : WP X (cells + 1) (slots + N) (pc + 3) ls (.ref (m_n M) :: st) (m_new M ci 0)) : WP X cells slots pc ls st M := by
  obtain ⟨⟨p, l, e, R, s, m, args, below, meth, c⟩, Z, A, D, ty, xt, nL, L0⟩ := X
  intro L H locs lc h0 hP hS hl
  have hts := hX.2.2.2.2.1
  have hfs : ∀ j, j < N → defaultValue (ty0 j) = vp_V (x_fs (x_ft.getD ci []) (fun _ => 0) (fun _ => .null)) j := by
    intro j hj
    have hlt : j < (x_ft.getD ci []).length := by rw [hc.2.1]; exact hj
    have ht : (x_ft.getD ci [])[j]? = some ((x_ft.getD ci [])[j]) := List.getElem?_eq_getElem hlt
    have hk := hc.kt hj ht
    unfold vp_V
    rw [List.getD_eq_getElem?_getD, x_fs_at ht, ← hk]
    have hk9 : ∀ q ∈ x_ft, ∀ t ∈ q, t ≤ 2 := by decide
    have h2 : (x_ft.getD ci [])[j] ≤ 2 := by
      refine hk9 (x_ft.getD ci []) ?_ _ (List.getElem_mem hlt)
      rw [List.getD_eq_getElem?_getD, List.getElem?_eq_getElem (show ci < x_ft.length from hc.2.2.1)]
      exact List.getElem_mem _
    rw [← hk] at h2
    generalize ty0 j = t9 at h2 ⊢
    cases t9 <;> first | rfl | (simp [x_kt] at h2)
  refine va_new (c0 := c) (ci := ci) hX.1 hX.2.1 hts hc.2.2.2.1 ty0 hc.2.2.2.2.1 hX.2.2.2.1 (hts _ hw) (hts _ hw2) (hts _ hw3) hX.2.2.2.2.2.2.1 hP.2.2.2.1 hP.2.2.2.2 hS hX.2.2.2.2.2.2.2.1 hc.1 hfs (Nat.le_trans hcells hX.2.2.2.2.2.2.2.2.2.2.2.2.1) (Nat.le_trans hslots hX.2.2.2.2.2.2.2.2.2.2.2.2.2) hd (fun q H1 h1 h2 h3 => ?_)
  have hPn : PR D ty xt A (L ++ [q]) (m_new M ci 0) H1 := hP.new hM (by
    rw [x_cl_o (show m_k (m_new M ci 0) (m_n M) = ci from if_pos rfl) hc.2.2.1]
    show Sum.inr (ci, x_fs _ (u1 _ M.1 (fun _ => 0) M.1) (fun j => va_rf ((u1 (m_r M) M.1 (fun _ => none) M.1 j).map _))) = _
    rw [u1_row, u1_row]
    rfl) h1 h2
  have key := kk (L ++ [q]) H1 locs lc (h0.trans (List.prefix_append L [q])) hPn h3 (x_lr_new hl (fun i v hi => by rw [hP.1]; exact ho2 i v hi))
  have e1 : ((Value.ref (m_n M) :: st).map (cv xt (L ++ [q]))) = Value.ref q :: st.map (cv xt L) := by
    rw [List.map_cons, x_olds (fun v hv => by rw [hP.1]; exact ho1 v hv)]
    congr 1
    show Value.ref (x_ad xt (L ++ [q]) (m_n M)) = _
    rw [← hP.1, x_ad_new (by rw [hP.1]; exact hM)]
  rw [e1] at key
  exact key
theorem x_cA {D : va_G} {tys : List (ClassId × FieldType)} {s : State} {ty : Nat → ClassId} {cA : ClassId} {t : FieldType} {j : Nat} (hK : va_K D vwCl (x_ty ty) s) (hK2 : va_K D vwCl (x_ty ty ++ [(cA, t)]) s) (ht : t = .int ∨ t = .long ∨ t = .object "CutFromOthers$Form") (hj : (x_ty ty)[j]? = some (ty j, t)) : cA = ty j := by
  have h1 := (hK.2 j _ hj).2
  have h2 := (hK2.2 3 (cA, t) rfl).2
  rcases ht with rfl | rfl | rfl
  · have h1 : s.vm.findClass _ = some (ty j) := h1
    have h2 : s.vm.findClass _ = some cA := h2
    rw [h1] at h2
    exact (Option.some.inj h2).symm
  · have h1 : s.vm.findClass _ = some (ty j) := h1
    have h2 : s.vm.findClass _ = some cA := h2
    rw [h1] at h2
    exact (Option.some.inj h2).symm
  · obtain ⟨_, _, _, _, _, h1⟩ := h1
    obtain ⟨_, _, _, _, _, h2⟩ := h2
    rw [h1] at h2
    exact (Option.some.inj h2).symm
/-- a new array of ints -/
theorem wp_newi {n : Int32} {N : Nat} (hX : Good X own cc d C S) (hw : Cond.arrayClass .int ∈ x_tbl) (hd : decode cc pc = .ok (.newarray .int, 2)) (hn : ¬ n < 0) (hN : n.toNatClampNeg = N) (hb : N * 4 ≤ 536870912) (hM : m_n M < 1000) (hcells : cells + 1 ≤ C) (hslots : slots + N ≤ S) (ho1 : ∀ v ∈ st, x_old (m_n M) v) (ho2 : ∀ (i : Nat) (v : Value), ls[i]? = some (some v) → x_old (m_n M) v)
    (kk : WP X (cells + 1) (slots + N) (pc + 2) ls (.ref (m_n M) :: st) (m_new M 12 N)) : WP X cells slots pc ls (.int n :: st) M := by
  obtain ⟨⟨p, l, e, R, s, m, args, below, meth, c⟩, Z, A, D, ty, xt, nL, L0⟩ := X
  intro L H locs lc h0 hP hS hl
  have hts := hX.2.2.2.2.1
  refine va_newa (atype := .int) (ty := .int) hX.1 hX.2.1 (hts _ hw) rfl hX.2.2.2.2.2.2.1 hP.2.2.2.1 hP.2.2.2.2 hS hX.2.2.2.2.2.2.2.1 (a0 := (N, .inl (fun _ => 0))) (fun _ => rfl) hn hN hb (Nat.le_trans hcells hX.2.2.2.2.2.2.2.2.2.2.2.2.1) (Nat.le_trans hslots hX.2.2.2.2.2.2.2.2.2.2.2.2.2) hd (fun q cA H1 hK2 h1 h2 h3 => ?_)
  have hcA := x_cA (tys := []) (j := 0) hX.2.2.2.2.2.2.1 hK2 (Or.inl rfl) rfl
  subst hcA
  have hPn : PR D ty xt A (L ++ [q]) (m_new M 12 N) H1 := hP.new hM (by
    rw [x_cl_i (show m_k (m_new M 12 N) (m_n M) = 12 from if_pos rfl)]
    show Sum.inl (ty 0, (if M.1 = M.1 then N else M.2.2.1 M.1), Sum.inl (u1 _ M.1 (fun _ => 0) M.1)) = _
    rw [u1_row, if_pos rfl]) h1 h2
  have key := kk (L ++ [q]) H1 locs lc (h0.trans (List.prefix_append L [q])) hPn h3 (x_lr_new hl (fun i v hi => by rw [hP.1]; exact ho2 i v hi))
  have e1 : ((Value.ref (m_n M) :: st).map (cv xt (L ++ [q]))) = Value.ref q :: st.map (cv xt L) := by
    rw [List.map_cons, x_olds (fun v hv => by rw [hP.1]; exact ho1 v hv)]
    congr 1
    show Value.ref (x_ad xt (L ++ [q]) (m_n M)) = _
    rw [← hP.1, x_ad_new (by rw [hP.1]; exact hM)]
  rw [e1] at key
  exact key
/-- a new array of longs -/
theorem wp_newl {n : Int32} {N : Nat} (hX : Good X own cc d C S) (hw : Cond.arrayClass .long ∈ x_tbl) (hd : decode cc pc = .ok (.newarray .long, 2)) (hn : ¬ n < 0) (hN : n.toNatClampNeg = N) (hb : N * 8 ≤ 536870912) (hM : m_n M < 1000) (hcells : cells + 1 ≤ C) (hslots : slots + N ≤ S) (ho1 : ∀ v ∈ st, x_old (m_n M) v) (ho2 : ∀ (i : Nat) (v : Value), ls[i]? = some (some v) → x_old (m_n M) v)
    (kk : WP X (cells + 1) (slots + N) (pc + 2) ls (.ref (m_n M) :: st) (m_new M 13 N)) : WP X cells slots pc ls (.int n :: st) M := by
  obtain ⟨⟨p, l, e, R, s, m, args, below, meth, c⟩, Z, A, D, ty, xt, nL, L0⟩ := X
  intro L H locs lc h0 hP hS hl
  have hts := hX.2.2.2.2.1
  refine va_newa (atype := .long) (ty := .long) hX.1 hX.2.1 (hts _ hw) rfl hX.2.2.2.2.2.2.1 hP.2.2.2.1 hP.2.2.2.2 hS hX.2.2.2.2.2.2.2.1 (a0 := (N, .inr (.inl (fun _ => 0)))) (fun _ => rfl) hn hN hb (Nat.le_trans hcells hX.2.2.2.2.2.2.2.2.2.2.2.2.1) (Nat.le_trans hslots hX.2.2.2.2.2.2.2.2.2.2.2.2.2) hd (fun q cA H1 hK2 h1 h2 h3 => ?_)
  have hcA := x_cA (tys := []) (j := 1) hX.2.2.2.2.2.2.1 hK2 (Or.inr (Or.inl rfl)) rfl
  subst hcA
  have hPn : PR D ty xt A (L ++ [q]) (m_new M 13 N) H1 := hP.new hM (by
    rw [x_cl_j (show m_k (m_new M 13 N) (m_n M) = 13 from if_pos rfl)]
    show Sum.inl (ty 1, (if M.1 = M.1 then N else M.2.2.1 M.1), Sum.inr (Sum.inl (u1 _ M.1 (fun _ => 0) M.1))) = _
    rw [u1_row, if_pos rfl]) h1 h2
  have key := kk (L ++ [q]) H1 locs lc (h0.trans (List.prefix_append L [q])) hPn h3 (x_lr_new hl (fun i v hi => by rw [hP.1]; exact ho2 i v hi))
  have e1 : ((Value.ref (m_n M) :: st).map (cv xt (L ++ [q]))) = Value.ref q :: st.map (cv xt L) := by
    rw [List.map_cons, x_olds (fun v hv => by rw [hP.1]; exact ho1 v hv)]
    congr 1
    show Value.ref (x_ad xt (L ++ [q]) (m_n M)) = _
    rw [← hP.1, x_ad_new (by rw [hP.1]; exact hM)]
  rw [e1] at key
  exact key
/-- a new array of Forms -/
theorem wp_newf {n : Int32} {N idx : Nat} (hX : Good X own cc d C S) (hw : Cond.classLink own idx "CutFromOthers$Form" ∈ x_tbl) (hd : decode cc pc = .ok (.anewarray idx, 3)) (hn : ¬ n < 0) (hN : n.toNatClampNeg = N) (hb : N * 4 ≤ 536870912) (hM : m_n M < 1000) (hcells : cells + 1 ≤ C) (hslots : slots + N ≤ S) (ho1 : ∀ v ∈ st, x_old (m_n M) v) (ho2 : ∀ (i : Nat) (v : Value), ls[i]? = some (some v) → x_old (m_n M) v)
    (kk : WP X (cells + 1) (slots + N) (pc + 3) ls (.ref (m_n M) :: st) (m_new M 14 N)) : WP X cells slots pc ls (.int n :: st) M := by
  obtain ⟨⟨p, l, e, R, s, m, args, below, meth, c⟩, Z, A, D, ty, xt, nL, L0⟩ := X
  intro L H locs lc h0 hP hS hl
  have hts := hX.2.2.2.2.1
  refine va_newq hX.1 hX.2.1 hX.2.2.2.1 (hts _ hw) hX.2.2.2.2.2.2.2.2.2.1.2.2.2 hX.2.2.2.2.2.2.1 hP.2.2.2.1 hP.2.2.2.2 hS hX.2.2.2.2.2.2.2.1 hn hN hb (Nat.le_trans hcells hX.2.2.2.2.2.2.2.2.2.2.2.2.1) (Nat.le_trans hslots hX.2.2.2.2.2.2.2.2.2.2.2.2.2) hd (fun q cA H1 hK2 h1 h2 h3 => ?_)
  have hcA := x_cA (tys := []) (j := 2) hX.2.2.2.2.2.2.1 hK2 (Or.inr (Or.inr rfl)) rfl
  subst hcA
  have hPn : PR D ty xt A (L ++ [q]) (m_new M 14 N) H1 := hP.new hM (by
    rw [x_cl_r (show m_k (m_new M 14 N) (m_n M) = 14 from if_pos rfl)]
    show Sum.inl (ty 2, (if M.1 = M.1 then N else M.2.2.1 M.1), Sum.inr (Sum.inr (Sum.inr (Sum.inr (fun j => (u1 (m_r M) M.1 (fun _ => none) M.1 j).map _))))) = _
    rw [u1_row, if_pos rfl]
    rfl) h1 h2
  have key := kk (L ++ [q]) H1 locs lc (h0.trans (List.prefix_append L [q])) hPn h3 (x_lr_new hl (fun i v hi => by rw [hP.1]; exact ho2 i v hi))
  have e1 : ((Value.ref (m_n M) :: st).map (cv xt (L ++ [q]))) = Value.ref q :: st.map (cv xt L) := by
    rw [List.map_cons, x_olds (fun v hv => by rw [hP.1]; exact ho1 v hv)]
    congr 1
    show Value.ref (x_ad xt (L ++ [q]) (m_n M)) = _
    rw [← hP.1, x_ad_new (by rw [hP.1]; exact hM)]
  rw [e1] at key
  exact key
/-- Object() -/
theorem wp_obj {idx a : Nat} (hX : Good X own cc (d + 1) C S) (hw : Cond.methodLink own idx Lib.objectInit ∈ x_tbl) (hw2 : Cond.instanceMethod Lib.objectInit ∈ x_tbl) (hw3 : Cond.code Lib.objectInit ⟨#[0xb1]⟩ 1 none ∈ x_tbl) (hd : decode cc pc = .ok (.invokespecial idx, 3)) (hst : (st.map fun v => v.category).sum ≤ 8) (kk : WP X cells slots (pc + 3) ls st M) : WP X cells slots pc ls (.ref a :: st) M := by
  obtain ⟨⟨p, l, e, R, s, m, args, below, meth, c⟩, Z, A, D, ty, xt, nL, L0⟩ := X
  intro L H locs lc h0 hP hS hl
  have hts := hX.2.2.2.2.1
  have hf := hX.2.2.2.2.2.2.2.2.2.2.1
  have hlo := hX.2.2.2.2.2.2.2.2.2.2.2.1
  refine W.objInit hX.1 hX.2.1 hX.2.2.2.1 (hts _ hw) (hts _ hw2) (hts _ hw3) rfl (by rw [hX.2.2.1]; exact hl.1) rfl hd (by omega) ?_ (kk L H locs lc h0 hP hS hl)
  have h9 : 2 * (F0 m pc lc (Value.ref (x_ad xt L a) :: st.map (cv xt L))).monitorRoom + ((st.map (cv xt L)).map fun v => v.category).sum ≤ 8 := lv_room (by rw [x_cats]; exact hst)
  have h8 : 2 * (F0 m pc lc ((Value.ref a :: st).map (cv xt L))).monitorRoom + ((st.map (cv xt L)).map fun v => v.category).sum ≤ 8 := h9
  omega
/-- Math.max, min, abs -/
theorem wp_max {idx : Nat} {x y : Int32} (hX : Good X own cc (d + 1) C S) (hw : Cond.methodLink own idx Lib.Math.max.name ∈ x_tbl) (hw2 : Cond.static Lib.Math.max.name ∈ x_tbl) (hw3 : Cond.initialized "java/lang/Math" ∈ x_tbl) (hw4 : Cond.code Lib.Math.max.name Lib.Math.max.code 2 (some .int) ∈ x_tbl) (hd : decode cc pc = .ok (.invokestatic idx, 3)) (hst : (st.map fun v => v.category).sum ≤ 8) (hc : cells ≤ C) (hs : slots ≤ S) (kk : WP X cells slots (pc + 3) ls (.int (if x < y then y else x) :: st) M) : WP X cells slots pc ls (.int y :: .int x :: st) M := by
  obtain ⟨⟨p, l, e, R, s, m, args, below, meth, c⟩, Z, A, D, ty, xt, nL, L0⟩ := X
  intro L H locs lc h0 hP hS hl
  have hts := hX.2.2.2.2.1
  have hf := hX.2.2.2.2.2.2.2.2.2.2.1
  have hlo := hX.2.2.2.2.2.2.2.2.2.2.2.1
  exact va_mmax hX.1 hX.2.1 (by rw [hX.2.2.1]; exact hl.1.symm) hX.2.2.2.1 (hts _ hw) (hts _ hw2) (hts _ hw3) (hts _ hw4) (by omega) (by rw [x_cats]; omega) (Nat.le_trans hc hX.2.2.2.2.2.2.2.2.2.2.2.2.1) (Nat.le_trans hs hX.2.2.2.2.2.2.2.2.2.2.2.2.2) hd (kk L H locs lc h0 hP hS hl)
theorem wp_min {idx : Nat} {x y : Int32} (hX : Good X own cc (d + 1) C S) (hw : Cond.methodLink own idx Lib.Math.min.name ∈ x_tbl) (hw2 : Cond.static Lib.Math.min.name ∈ x_tbl) (hw3 : Cond.initialized "java/lang/Math" ∈ x_tbl) (hw4 : Cond.code Lib.Math.min.name Lib.Math.min.code 2 (some .int) ∈ x_tbl) (hd : decode cc pc = .ok (.invokestatic idx, 3)) (hst : (st.map fun v => v.category).sum ≤ 8) (hc : cells ≤ C) (hs : slots ≤ S) (kk : WP X cells slots (pc + 3) ls (.int (if y < x then y else x) :: st) M) : WP X cells slots pc ls (.int y :: .int x :: st) M := by
  obtain ⟨⟨p, l, e, R, s, m, args, below, meth, c⟩, Z, A, D, ty, xt, nL, L0⟩ := X
  intro L H locs lc h0 hP hS hl
  have hts := hX.2.2.2.2.1
  have hf := hX.2.2.2.2.2.2.2.2.2.2.1
  have hlo := hX.2.2.2.2.2.2.2.2.2.2.2.1
  exact va_mmin hX.1 hX.2.1 (by rw [hX.2.2.1]; exact hl.1.symm) hX.2.2.2.1 (hts _ hw) (hts _ hw2) (hts _ hw3) (hts _ hw4) (by omega) (by rw [x_cats]; omega) (Nat.le_trans hc hX.2.2.2.2.2.2.2.2.2.2.2.2.1) (Nat.le_trans hs hX.2.2.2.2.2.2.2.2.2.2.2.2.2) hd (kk L H locs lc h0 hP hS hl)
end PRIMS
