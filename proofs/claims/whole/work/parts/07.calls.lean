/-! CALLS -/
/-- a method of the tables: n parameters -/
def MF (i : mI) (n : Nat) : Prop := x_cw i ∈ x_tbl ∧ Cond.initialized i.1.cls ∈ x_tbl ∧ (i.1.cls ≠ "java/lang/invoke/MethodHandle" ∧ i.1.cls ≠ "java/lang/invoke/VarHandle" ∧ (parseMethodDescriptor i.1.desc).map (fun d => d.parameters.length) = some n) ∧ i.2.2.1 ≤ 40
/-- the link: the class's own entry, or a nest mate's -/
def ML (own : String) (idx : Nat) (i : mI) : Prop := Cond.methodLink own idx i.1 ∈ x_tbl ∨ ∃ host, (own, idx, i.1, host) ∈ x_nM
theorem x_gd {i : mI} (h : x_cw i ∈ x_tbl) : GoodIn x_tbl (x_cw i :: x_tbl) := x_goodIn (fun w hw => (List.mem_cons.mp hw).elim (fun e => e ▸ h) id)
theorem x_A_sub {ty : Nat → ClassId} {xt : Nat → Nat} {A : Nat → Prop} {L : List Nat} {M : mM} {H0 H : Heap} {locs : List Loc} (hD : va_D A (x_ws ty xt L M)) (hS : va_S A H0 H locs) (hA : ∀ q : Nat, H0.size ≤ q → A q) : ∀ q, va_A (x_ws ty xt L M) H.size q → A q := by
  intro q hq
  rcases hq with ⟨k, e, hk⟩ | hq
  · exact hD.2 k (q, e) hk
  · exact hA q (Nat.le_trans hS.1 hq)
/-- the start of a callee's contract, out of the caller's world -/
theorem x_pre {X : cxT} {own : String} {cc : ByteArray} {d C S : Nat} {p : Program} {l : Launch} {e : Env} {R : Room} {s : State} {m : MethodId} {args : Array Value} {below : List Frame} {meth : Method} {c : Code} {Z : State → Prop} {A : Nat → Prop} {D : va_G} {ty : Nat → ClassId} {xt : Nat → Nat} {nL : Nat} {L0 : List Nat} (hX : Good ((p, l, e, R, s, m, args, below, meth, c), Z, A, D, ty, xt, nL, L0) own cc d C S) {L : List Nat} {M : mM} {H : Heap} {locs : List Loc} (hP : PR D ty xt A L M H) (hS : va_S A s.heap H locs) (av : List Value) :
    PreS s H (va_Pc (av.map (cv xt L)) (fun U => U.heap.size = H.size ∧ PR D ty xt (fun _ => True) L M U.heap ∧ va_K D vwCl (x_ty ty) U ∧ ExH xt (va_A (x_ws ty xt L M) H.size) U U.heap ∧ ExV xt U)) (av.map (cv xt L)) := by
  refine ⟨fun a U g mk q => ?_, fun U hU hW => ?_⟩
  · obtain ⟨q0, q1, q2, q3, q4, q5⟩ := q
    exact ⟨q0, q1, q2, va_K.moved (u := U) (U := U.calling g mk a) (Vm.Alike.refl U.vm) q3, ExH.moved (u := U) (U := U.calling g mk a) (Vm.Alike.refl U.vm) q4, ExV.same (u := U) (U := U.calling g mk a) rfl q5⟩
  · refine ⟨rfl, by rw [hU], by rw [hU]; exact hP.weaken (fun _ _ _ _ => trivial), va_K.moved hW.alike hX.2.2.2.2.2.2.1, ?_, ExV.warm hW hX.2.2.2.2.2.2.2.2.2.1⟩
    rw [hU]
    exact ExH.moved hW.alike ((hX.2.2.2.2.2.2.2.2.1.kept hS.2.1).narrow (x_A_sub hP.2.2.2.2 hS hX.2.2.2.2.2.2.2.1))
/-- the cells of the world behind a call, as the caller names them -/
theorem x_behind {D : va_G} {ty : Nat → ClassId} {xt : Nat → Nat} {A : Nat → Prop} {L L' : List Nat} {M M' : mM} {H H0 H1 : Heap} {locs : List Loc} (hP : PR D ty xt A L M H) (hS : va_S A H0 H locs) (hA : ∀ q : Nat, H0.size ≤ q → A q) (h : PR D ty xt (va_A (x_ws ty xt L M) H.size) L' M' H1) : PR D ty xt A L' M' H1 :=
  h.weaken (fun _ _ _ hq => x_A_sub hP.2.2.2.2 hS hA _ hq)
/-- values that stay the same when cells come -/
def x_old (n : Nat) (v : Value) : Prop := ∀ r, v = .ref r → r < n ∨ 1000 ≤ r
theorem x_pre_get {L L' : List Nat} (h : L <+: L') {k : Nat} (hk : k < L.length) : L'.getD k 0 = L.getD k 0 := by
  obtain ⟨t, rfl⟩ := h
  simp [List.getD_eq_getElem?_getD, List.getElem?_append_left hk]
theorem cv_old {xt : Nat → Nat} {L L' : List Nat} (h : L <+: L') {v : Value} (hv : x_old L.length v) : cv xt L' v = cv xt L v := by
  cases v with
  | ref r =>
    show Value.ref (x_ad xt L' r) = Value.ref (x_ad xt L r)
    unfold x_ad
    rcases hv r rfl with h1 | h1
    · by_cases h2 : r < 1000
      · rw [if_pos h2, if_pos h2, x_pre_get h h1]
      · rw [if_neg h2, if_neg h2]
    · have h3 : ¬ r < 1000 := Nat.not_lt.mpr h1
      rw [if_neg h3, if_neg h3]
  | _ => rfl
section CALLS
variable {X : cxT} {own : String} {cc : ByteArray} {d C S cells slots pc : Nat} {ls : List (Option Value)} {st : List Value} {M : mM}
/-- what goes on behind a call: 'hold' if no cell came, or if all that is held is old -/
theorem x_go {p : Program} {l : Launch} {e : Env} {R : Room} {s : State} {m : MethodId} {args : Array Value} {below : List Frame} {meth : Method} {c : Code} {Z : State → Prop} {A : Nat → Prop} {D : va_G} {ty : Nat → ClassId} {xt : Nat → Nat} {nL : Nat} {L0 : List Nat} (hX : Good ((p, l, e, R, s, m, args, below, meth, c), Z, A, D, ty, xt, nL, L0) own cc d C S) {L : List Nat} {H : Heap} {locs : List Loc} {lc : Array Slot} {Q : Option Value → mM → Prop} {mc ms : Nat} {a0 : Array Value} {st0 : List Value} (h0 : L0 <+: L) (hP : PR D ty xt A L M H) (hS : va_S A s.heap H locs) (hl : LR xt L nL lc ls)
    (hr : va_Run p l e R s m args below meth c H locs cells slots mc ms (F0 m pc lc st0) (st.map (cv xt L)) (QO D ty xt (va_A (x_ws ty xt L M) H.size) L Q a0) (va_A (x_ws ty xt L M) H.size))
    (hold : ∀ M' : mM, (∃ r, Q r M') → (m_n M' = m_n M ∨ ((∀ v ∈ st, x_old (m_n M) v) ∧ ∀ (i : Nat) (v : Value), ls[i]? = some (some v) → x_old (m_n M) v)))
    (kk : ∀ r M', Q r M' → WP ((p, l, e, R, s, m, args, below, meth, c), Z, A, D, ty, xt, nL, L0) (cells + mc) (slots + ms) (pc + 3) ls (r.toList ++ st) M') : W p l e R s m args below meth c H locs cells slots Z (F0 m pc lc st0) := by
  intro T hT X9
  obtain ⟨v, st₀, t, T', Lc, g0, X', hL, e1, e2, ⟨⟨r, M', L', hv, hq, hpre, hP', hK'⟩, hz, hk⟩, stp⟩ := hr T hT X9
  have hv : v = r.map (cv xt L') := by injection hv
  subst hv
  rw [g0] at hz hk
  have hA := hX.2.2.2.2.2.2.2.1
  have hS' : va_S A s.heap T'.heap (locs ++ Lc) := ⟨Nat.le_trans hS.1 (by rw [e1]; exact hz), fun q h1 h2 => by
      rw [e1, hk q (Nat.lt_of_lt_of_le h1 hS.1) (fun z => h2 (x_A_sub hP.2.2.2.2 hS hA q z))]
      exact hS.2.1 q h1 h2, fun q hq => by
      rcases List.mem_append.mp hq with h | h
      · exact hS.2.2 q h
      · exact x_A_sub hP.2.2.2.2 hS hA _ (hL q h)⟩
  have same : (∀ v ∈ st, cv xt L' v = cv xt L v) ∧ ∀ (i : Nat) (v : Value), ls[i]? = some (some v) → cv xt L' v = cv xt L v := by
    rcases hold M' ⟨r, hq⟩ with h | ⟨h1, h2⟩
    · have : L' = L := by
        obtain ⟨t9, ht9⟩ := hpre
        have hz : L'.length = L.length := by rw [hP'.1, hP.1]; exact h
        have : t9 = [] := List.length_eq_zero_iff.mp (by rw [← ht9, List.length_append] at hz; omega)
        rw [← ht9, this, List.append_nil]
      subst this
      exact ⟨fun _ _ => rfl, fun _ _ _ => rfl⟩
    · exact ⟨fun v hv => cv_old hpre (by rw [hP.1]; exact h1 v hv), fun i v hi => cv_old hpre (by rw [hP.1]; exact h2 i v hi)⟩
  have est : (r.toList ++ st).map (cv xt L') = (r.map (cv xt L')).toList ++ st.map (cv xt L) := by
    rw [List.map_append, List.map_congr_left same.1]
    congr 1
    cases r <;> rfl
  have key := kk r M' hq L' T'.heap (locs ++ Lc) lc (h0.trans hpre) (by rw [e1]; exact x_behind hP hS hA hP') hS' ⟨hl.1, hl.2.1, fun i v hi => by rw [same.2 i v hi]; exact hl.2.2 i v hi⟩
  rw [est] at key
  obtain ⟨t2, a1, b1⟩ := key T' rfl X'
  exact ⟨t2, stp t2 a1, b1⟩
theorem x_cats (xt : Nat → Nat) (L : List Nat) (st : List Value) : ((st.map (cv xt L)).map fun v => v.category).sum = (st.map fun v => v.category).sum := by
  rw [List.map_map]
  congr 1
  exact List.map_congr_left (fun v _ => cv_cat xt L v)
/-- a method of an object: any cells may come (mc, ms) -/
theorem wp_invV' {i : mI} {n idx b ci mc ms : Nat} {As : List Value} {C0 : String} {T : u_T} {N : Nat} {Q : Option Value → mM → Prop} (hX : Good X own cc (d + 1) C S) (hm : MF i n) (hl : ML own idx i) (hi : Cond.instanceMethod i.1 ∈ x_tbl) (hsel : Cond.selects i.1.cls i.1 i.1 ∈ x_tbl) (hci : vwCl[ci]? = some (C0, T, N)) (hC0 : C0 = i.1.cls) (hc12 : ci < 12) (hd : decode cc pc = .ok (.invokevirtual idx, 3)) (hb : b < m_n M) (hk : m_k M b = ci) (hn : As.length = n) (hst : (st.map fun v => v.category).sum ≤ 8) (hcells : cells + mc ≤ C) (hslots : slots + ms ≤ S) (hN : x_nl X = ls.length) (hct : CT d mc ms i (.ref b :: As) M Q)
    (hold : ∀ M' : mM, (∃ r, Q r M') → (m_n M' = m_n M ∨ ((∀ v ∈ st, x_old (m_n M) v) ∧ ∀ (i : Nat) (v : Value), ls[i]? = some (some v) → x_old (m_n M) v)))
    (kk : ∀ r M', Q r M' → WP X (cells + mc) (slots + ms) (pc + 3) ls (r.toList ++ st) M') : WP X cells slots pc ls (As.reverse ++ .ref b :: st) M := by
  obtain ⟨⟨p, l, e, R, s, m, args, below, meth, c⟩, Z, A, D, ty, xt, nL, L0⟩ := X
  intro L H locs lc h0 hP hS hlr
  subst hC0
  have hcell := x_ws_at (ty := ty) (xt := xt) (L := L) hb
  rw [x_cl_o hk hc12] at hcell
  have hrecv := va_recv hX.2.2.2.2.2.2.1 hP.2.2.2.1 hci hcell
  have hts := hX.2.2.2.2.1
  obtain ⟨hm1, hm2, hm3, hm4⟩ := hm
  have hR : (x_rm d mc ms).frames + 1 ≤ R.frames ∧ 8 + (i.2.2.1 + 11) + (x_rm d mc ms).locals ≤ R.locals := by
    have h1 := hX.2.2.2.2.2.2.2.2.2.2.1
    have h2 := hX.2.2.2.2.2.2.2.2.2.2.2.1
    exact ⟨h1, by show 8 + (i.2.2.1 + 11) + 64 * d ≤ R.locals; omega⟩
  have hf : cells + mc ≤ R.cells ∧ slots + ms ≤ R.slots := ⟨Nat.le_trans hcells hX.2.2.2.2.2.2.2.2.2.2.2.2.1, Nat.le_trans hslots hX.2.2.2.2.2.2.2.2.2.2.2.2.2⟩
  have hpre := x_pre (X := ((p, l, e, R, s, m, args, below, meth, c), Z, A, D, ty, xt, nL, L0)) hX hP hS (.ref b :: As)
  have est : (As.reverse ++ .ref b :: st).map (cv xt L) = (As.map (cv xt L)).reverse ++ Value.ref (x_ad xt L b) :: st.map (cv xt L) := by
    rw [List.map_append, List.map_reverse]
    rfl
  have hCF : CallFix p m c cc nL s args x_tbl own := ⟨hX.1, hX.2.1, hX.2.2.1, hX.2.2.2.1, hts⟩
  have hst' : 2 * (F0 m pc lc ((As.map (cv xt L)).reverse ++ Value.ref (x_ad xt L b) :: st.map (cv xt L))).monitorRoom + ((st.map (cv xt L)).map fun v => v.category).sum ≤ 8 := lv_room (by rw [x_cats]; exact hst)
  have run : va_Run p l e R s m args below meth c H locs cells slots mc ms (F0 m pc lc ((As.map (cv xt L)).reverse ++ Value.ref (x_ad xt L b) :: st.map (cv xt L))) (st.map (cv xt L)) (QO D ty xt (va_A (x_ws ty xt L M) H.size) L Q (Value.ref (x_ad xt L b) :: As.map (cv xt L)).toArray) (va_A (x_ws ty xt L M) H.size) := by
    rcases hl with hl | ⟨host, hl⟩
    · exact va_runV (C := i.1.cls) (As := As.map (cv xt L)) (rest := st.map (cv xt L)) hCF (hct l D ty xt L H.size) ⟨callB_of n hts (x_gd hm1) rfl rfl rfl (hts _ hm2) (hts _ hl) hm3 hR, hts _ hi, hts _ hsel⟩ ⟨hpre.1, hrecv, hpre.2⟩ rfl (by simpa using hn) hlr.1 rfl hst' hd hf
    · exact va_runVN (C := i.1.cls) (As := As.map (cv xt L)) (rest := st.map (cv xt L)) hCF (hct l D ty xt L H.size) ⟨va_cnB n hts (x_gd hm1) rfl rfl rfl (hX.2.2.2.2.2.2.2.2.2.1.2.2.1 _ hl) (hts _ hm2) hm3 hR, hts _ hi, hts _ hsel⟩ ⟨hpre.1, hrecv, hpre.2⟩ rfl (by simpa using hn) hlr.1 rfl hst' hd hf
  rw [est]
  exact x_go hX h0 hP hS hlr run hold kk
/-- a static method -/
theorem wp_invS' {i : mI} {n idx mc ms : Nat} {As : List Value} {Q : Option Value → mM → Prop} (hX : Good X own cc (d + 1) C S) (hm : MF i n) (hl : ML own idx i) (hi : Cond.static i.1 ∈ x_tbl) (hd : decode cc pc = .ok (.invokestatic idx, 3)) (hn : As.length = n) (hst : (st.map fun v => v.category).sum ≤ 8) (hcells : cells + mc ≤ C) (hslots : slots + ms ≤ S) (hct : CT d mc ms i As M Q)
    (hold : ∀ M' : mM, (∃ r, Q r M') → (m_n M' = m_n M ∨ ((∀ v ∈ st, x_old (m_n M) v) ∧ ∀ (i : Nat) (v : Value), ls[i]? = some (some v) → x_old (m_n M) v)))
    (kk : ∀ r M', Q r M' → WP X (cells + mc) (slots + ms) (pc + 3) ls (r.toList ++ st) M') : WP X cells slots pc ls (As.reverse ++ st) M := by
  obtain ⟨⟨p, l, e, R, s, m, args, below, meth, c⟩, Z, A, D, ty, xt, nL, L0⟩ := X
  intro L H locs lc h0 hP hS hlr
  have hts := hX.2.2.2.2.1
  obtain ⟨hm1, hm2, hm3, hm4⟩ := hm
  have hR : (x_rm d mc ms).frames + 1 ≤ R.frames ∧ 8 + (i.2.2.1 + 11) + (x_rm d mc ms).locals ≤ R.locals := by
    have h1 := hX.2.2.2.2.2.2.2.2.2.2.1
    have h2 := hX.2.2.2.2.2.2.2.2.2.2.2.1
    exact ⟨h1, by show 8 + (i.2.2.1 + 11) + 64 * d ≤ R.locals; omega⟩
  have hf : cells + mc ≤ R.cells ∧ slots + ms ≤ R.slots := ⟨Nat.le_trans hcells hX.2.2.2.2.2.2.2.2.2.2.2.2.1, Nat.le_trans hslots hX.2.2.2.2.2.2.2.2.2.2.2.2.2⟩
  have hpre := x_pre (X := ((p, l, e, R, s, m, args, below, meth, c), Z, A, D, ty, xt, nL, L0)) hX hP hS As
  have est : (As.reverse ++ st).map (cv xt L) = (As.map (cv xt L)).reverse ++ st.map (cv xt L) := by
    rw [List.map_append, List.map_reverse]
  have hCF : CallFix p m c cc nL s args x_tbl own := ⟨hX.1, hX.2.1, hX.2.2.1, hX.2.2.2.1, hts⟩
  have hst' : 2 * (F0 m pc lc ((As.map (cv xt L)).reverse ++ st.map (cv xt L))).monitorRoom + ((st.map (cv xt L)).map fun v => v.category).sum ≤ 8 := lv_room (by rw [x_cats]; exact hst)
  have run : va_Run p l e R s m args below meth c H locs cells slots mc ms (F0 m pc lc ((As.map (cv xt L)).reverse ++ st.map (cv xt L))) (st.map (cv xt L)) (QO D ty xt (va_A (x_ws ty xt L M) H.size) L Q (As.map (cv xt L)).toArray) (va_A (x_ws ty xt L M) H.size) := by
    rcases hl with hl | ⟨host, hl⟩
    · exact va_runS (As := As.map (cv xt L)) (rest := st.map (cv xt L)) hCF (hct l D ty xt L H.size) ⟨callB_of n hts (x_gd hm1) rfl rfl rfl (hts _ hm2) (hts _ hl) hm3 hR, hts _ hi⟩ hpre rfl (by simpa using hn) hlr.1 rfl hst' hd hf
    · exact va_runSN (As := As.map (cv xt L)) (rest := st.map (cv xt L)) hCF (hct l D ty xt L H.size) ⟨va_cnB n hts (x_gd hm1) rfl rfl rfl (hX.2.2.2.2.2.2.2.2.2.1.2.2.1 _ hl) (hts _ hm2) hm3 hR, hts _ hi, trivial⟩ hpre rfl (by simpa using hn) hlr.1 rfl hst' hd hf
  rw [est]
  exact x_go hX h0 hP hS hlr run hold kk
/-- a constructor -/
theorem wp_invI' {i : mI} {n idx b mc ms : Nat} {As : List Value} {Q : Option Value → mM → Prop} (hX : Good X own cc (d + 1) C S) (hm : MF i n) (hl : ML own idx i) (hr0 : i.2.2.2 = none) (hnm : i.1.name = "<init>") (hi : Cond.instanceMethod i.1 ∈ x_tbl) (hd : decode cc pc = .ok (.invokespecial idx, 3)) (hn : As.length = n) (hst : (st.map fun v => v.category).sum ≤ 8) (hcells : cells + mc ≤ C) (hslots : slots + ms ≤ S) (hct : CT d mc ms i (.ref b :: As) M Q)
    (hold : ∀ M' : mM, (∃ r, Q r M') → (m_n M' = m_n M ∨ ((∀ v ∈ st, x_old (m_n M) v) ∧ ∀ (i : Nat) (v : Value), ls[i]? = some (some v) → x_old (m_n M) v)))
    (kk : ∀ r M', Q r M' → WP X (cells + mc) (slots + ms) (pc + 3) ls (r.toList ++ st) M') : WP X cells slots pc ls (As.reverse ++ .ref b :: st) M := by
  obtain ⟨⟨p, l, e, R, s, m, args, below, meth, c⟩, Z, A, D, ty, xt, nL, L0⟩ := X
  intro L H locs lc h0 hP hS hlr
  obtain ⟨y, bytes, maxL, ret⟩ := i
  have hr0 : ret = none := hr0
  subst hr0
  have hts := hX.2.2.2.2.1
  obtain ⟨hm1, hm2, hm3, hm4⟩ := hm
  have hm4 : maxL ≤ 40 := hm4
  have hR : (x_rm d mc ms).frames + 1 ≤ R.frames ∧ 8 + (maxL + 11) + (x_rm d mc ms).locals ≤ R.locals := by
    have h1 := hX.2.2.2.2.2.2.2.2.2.2.1
    have h2 := hX.2.2.2.2.2.2.2.2.2.2.2.1
    exact ⟨h1, by show 8 + (maxL + 11) + 64 * d ≤ R.locals; omega⟩
  have hf : cells + mc ≤ R.cells ∧ slots + ms ≤ R.slots := ⟨Nat.le_trans hcells hX.2.2.2.2.2.2.2.2.2.2.2.2.1, Nat.le_trans hslots hX.2.2.2.2.2.2.2.2.2.2.2.2.2⟩
  have hpre := x_pre (X := ((p, l, e, R, s, m, args, below, meth, c), Z, A, D, ty, xt, nL, L0)) hX hP hS (.ref b :: As)
  have est : (As.reverse ++ .ref b :: st).map (cv xt L) = (As.map (cv xt L)).reverse ++ Value.ref (x_ad xt L b) :: st.map (cv xt L) := by
    rw [List.map_append, List.map_reverse]
    rfl
  have hCF : CallFix p m c cc nL s args x_tbl own := ⟨hX.1, hX.2.1, hX.2.2.1, hX.2.2.2.1, hts⟩
  have hst' : 2 * (F0 m pc lc ((As.map (cv xt L)).reverse ++ Value.ref (x_ad xt L b) :: st.map (cv xt L))).monitorRoom + ((st.map (cv xt L)).map fun v => v.category).sum ≤ 8 := lv_room (by rw [x_cats]; exact hst)
  have run : va_Run p l e R s m args below meth c H locs cells slots mc ms (F0 m pc lc ((As.map (cv xt L)).reverse ++ Value.ref (x_ad xt L b) :: st.map (cv xt L))) (st.map (cv xt L)) (QO D ty xt (va_A (x_ws ty xt L M) H.size) L Q (Value.ref (x_ad xt L b) :: As.map (cv xt L)).toArray) (va_A (x_ws ty xt L M) H.size) := by
    rcases hl with hl | ⟨host, hl⟩
    · exact va_runI (As := As.map (cv xt L)) (rest := st.map (cv xt L)) hCF (hct l D ty xt L H.size) ⟨callB_of n hts (x_gd hm1) rfl rfl rfl (hts _ hm2) (hts _ hl) hm3 hR, hnm, hts _ hi⟩ hpre rfl (by simpa using hn) hlr.1 rfl hst' hd hf
    · exact va_runIN (As := As.map (cv xt L)) (rest := st.map (cv xt L)) hCF (hct l D ty xt L H.size) ⟨va_cnB n hts (x_gd hm1) rfl rfl rfl (hX.2.2.2.2.2.2.2.2.2.1.2.2.1 _ hl) (hts _ hm2) hm3 hR, hnm, hts _ hi⟩ hpre rfl (by simpa using hn) hlr.1 rfl hst' hd hf
  rw [est]
  exact x_go hX h0 hP hS hlr run hold kk
end CALLS
