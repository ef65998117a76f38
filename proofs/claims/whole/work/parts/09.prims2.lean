/-! Math.abs, COPIES, TABLES, STRINGS -/
section PRIM2
variable {X : cxT} {own : String} {cc : ByteArray} {d C S cells slots pc : Nat} {ls : List (Option Value)} {st : List Value} {M : mM}
theorem wp_abs {idx : Nat} {x : Int32} (hX : Good X own cc (d + 1) C S) (hw : Cond.methodLink own idx Lib.Math.abs.name ∈ x_tbl) (hw2 : Cond.static Lib.Math.abs.name ∈ x_tbl) (hw3 : Cond.initialized "java/lang/Math" ∈ x_tbl) (hw4 : Cond.code Lib.Math.abs.name Lib.Math.abs.code 1 (some .int) ∈ x_tbl) (hd : decode cc pc = .ok (.invokestatic idx, 3)) (hst : (st.map fun v => v.category).sum ≤ 8) (hc : cells ≤ C) (hs : slots ≤ S) (kk : WP X cells slots (pc + 3) ls (.int (if 0 ≤ x then x else 0 - x) :: st) M) : WP X cells slots pc ls (.int x :: st) M := by
  obtain ⟨⟨p, l, e, R, s, m, args, below, meth, c⟩, Z, A, D, ty, xt, nL, L0⟩ := X
  intro L H locs lc h0 hP hS hl
  have hts := hX.2.2.2.2.1
  have hf := hX.2.2.2.2.2.2.2.2.2.2.1
  have hlo := hX.2.2.2.2.2.2.2.2.2.2.2.1
  exact va_mabs hX.1 hX.2.1 (by rw [hX.2.2.1]; exact hl.1.symm) hX.2.2.2.1 (hts _ hw) (hts _ hw2) (hts _ hw3) (hts _ hw4) (by omega) (by rw [x_cats]; omega) (Nat.le_trans hc hX.2.2.2.2.2.2.2.2.2.2.2.2.1) (Nat.le_trans hs hX.2.2.2.2.2.2.2.2.2.2.2.2.2) hd (kk L H locs lc h0 hP hS hl)
theorem x_native : nativeFrameWords "java/lang/System" "arraycopy" 5 + 11 ≤ 56 := by decide
theorem wp_copyi {idx a b : Nat} {sp dp n : Int32} (hX : Good X own cc (d + 1) C S) (hw : Cond.methodLink own idx arraycopyName ∈ x_tbl) (hw2 : Cond.native arraycopyName ∈ x_tbl) (hw3 : Cond.static arraycopyName ∈ x_tbl) (hw4 : Cond.initialized "java/lang/System" ∈ x_tbl) (hd : decode cc pc = .ok (.invokestatic idx, 3)) (hst : (st.map fun v => v.category).sum ≤ 8) (ha : a < m_n M) (hka : m_k M a = 12) (hb : b < m_n M) (hkb : m_k M b = 12) (h1 : ¬ sp < 0) (h2 : ¬ dp < 0) (h3 : ¬ n < 0) (h4 : sp.toNatClampNeg + n.toNatClampNeg ≤ m_l M a) (h5 : dp.toNatClampNeg + n.toNatClampNeg ≤ m_l M b)
    (kk : WP X cells slots (pc + 3) ls st (m_rowi M b (va_cpy (m_i M a) (m_i M b) sp.toNatClampNeg dp.toNatClampNeg n.toNatClampNeg))) : WP X cells slots pc ls (.int n :: .int dp :: .ref b :: .int sp :: .ref a :: st) M := by
  obtain ⟨⟨p, l, e, R, s, m, args, below, meth, c⟩, Z, A, D, ty, xt, nL, L0⟩ := X
  intro L H locs lc h0 hP hS hl
  have hts := hX.2.2.2.2.1
  have hf := hX.2.2.2.2.2.2.2.2.2.2.1
  have hlo := hX.2.2.2.2.2.2.2.2.2.2.2.1
  have hca := x_ws_at (ty := ty) (xt := xt) (L := L) ha
  have hcb := x_ws_at (ty := ty) (xt := xt) (L := L) hb
  rw [x_cl_i hka] at hca
  rw [x_cl_i hkb] at hcb
  refine va_copyi hX.1 hX.2.1 (by rw [hX.2.2.1]; exact hl.1.symm) hX.2.2.2.1 (hts _ hw) (hts _ hw2) (hts _ hw3) (hts _ hw4) hX.2.2.2.2.2.2.1 hP.2.2.2.1 hP.2.2.2.2 hS a b 0 0 hca hcb rfl rfl rfl h1 h2 h3 h4 h5 (fun _ _ => rfl) (by omega) (by rw [x_cats]; have := x_native; omega) hd (fun H1 locs1 g1 g2 g3 => ?_)
  refine kk L H1 locs1 lc h0 (hP.put (M' := m_rowi M b (va_cpy (m_i M a) (m_i M b) sp.toNatClampNeg dp.toNatClampNeg n.toNatClampNeg)) hb rfl ?_ (fun q hq => x_cl_eq rfl rfl (u1_ne _ _ hq) rfl rfl) hP.2.2.1 g1 g2) g3 hl
  rw [x_cl_i (show m_k (m_rowi M b (va_cpy (m_i M a) (m_i M b) sp.toNatClampNeg dp.toNatClampNeg n.toNatClampNeg)) b = 12 from hkb)]
  show Sum.inl (ty 0, m_l M b, Sum.inl (u1 (m_i M) b _ b)) = _
  rw [u1_row]
theorem wp_copyj {idx a b : Nat} {sp dp n : Int32} (hX : Good X own cc (d + 1) C S) (hw : Cond.methodLink own idx arraycopyName ∈ x_tbl) (hw2 : Cond.native arraycopyName ∈ x_tbl) (hw3 : Cond.static arraycopyName ∈ x_tbl) (hw4 : Cond.initialized "java/lang/System" ∈ x_tbl) (hd : decode cc pc = .ok (.invokestatic idx, 3)) (hst : (st.map fun v => v.category).sum ≤ 8) (ha : a < m_n M) (hka : m_k M a = 13) (hb : b < m_n M) (hkb : m_k M b = 13) (h1 : ¬ sp < 0) (h2 : ¬ dp < 0) (h3 : ¬ n < 0) (h4 : sp.toNatClampNeg + n.toNatClampNeg ≤ m_l M a) (h5 : dp.toNatClampNeg + n.toNatClampNeg ≤ m_l M b)
    (kk : WP X cells slots (pc + 3) ls st (m_rowj M b (va_cpy (m_j M a) (m_j M b) sp.toNatClampNeg dp.toNatClampNeg n.toNatClampNeg))) : WP X cells slots pc ls (.int n :: .int dp :: .ref b :: .int sp :: .ref a :: st) M := by
  obtain ⟨⟨p, l, e, R, s, m, args, below, meth, c⟩, Z, A, D, ty, xt, nL, L0⟩ := X
  intro L H locs lc h0 hP hS hl
  have hts := hX.2.2.2.2.1
  have hf := hX.2.2.2.2.2.2.2.2.2.2.1
  have hlo := hX.2.2.2.2.2.2.2.2.2.2.2.1
  have hca := x_ws_at (ty := ty) (xt := xt) (L := L) ha
  have hcb := x_ws_at (ty := ty) (xt := xt) (L := L) hb
  rw [x_cl_j hka] at hca
  rw [x_cl_j hkb] at hcb
  refine va_copyl hX.1 hX.2.1 (by rw [hX.2.2.1]; exact hl.1.symm) hX.2.2.2.1 (hts _ hw) (hts _ hw2) (hts _ hw3) (hts _ hw4) hX.2.2.2.2.2.2.1 hP.2.2.2.1 hP.2.2.2.2 hS a b 1 1 hca hcb rfl rfl rfl h1 h2 h3 h4 h5 (fun _ _ => rfl) (by omega) (by rw [x_cats]; have := x_native; omega) hd (fun H1 locs1 g1 g2 g3 => ?_)
  refine kk L H1 locs1 lc h0 (hP.put (M' := m_rowj M b (va_cpy (m_j M a) (m_j M b) sp.toNatClampNeg dp.toNatClampNeg n.toNatClampNeg)) hb rfl ?_ (fun q hq => x_cl_eq rfl rfl rfl (u1_ne _ _ hq) rfl) hP.2.2.1 g1 g2) g3 hl
  rw [x_cl_j (show m_k (m_rowj M b (va_cpy (m_j M a) (m_j M b) sp.toNatClampNeg dp.toNatClampNeg n.toNatClampNeg)) b = 13 from hkb)]
  show Sum.inl (ty 1, m_l M b, Sum.inr (Sum.inl (u1 (m_j M) b _ b))) = _
  rw [u1_row]
/-- the three tables: 1001 MOST_OF_TRAIT, 1002 ABOVE, 1003 BODIES -/
theorem wp_most {idx : Nat} (hX : Good X own cc d C S) (hw : Cond.fieldLink own idx "CutFromOthers" "MOST_OF_TRAIT" "[I" ∈ x_tbl) (hd : decode cc pc = .ok (.getstatic idx, 3)) (kk : WP X cells slots (pc + 3) ls (.ref 1001 :: st) M) : WP X cells slots pc ls st M := by
  obtain ⟨⟨p, l, e, R, s, m, args, below, meth, c⟩, Z, A, D, ty, xt, nL, L0⟩ := X
  intro L H locs lc h0 hP hS hl
  exact va_gets hX.1 hX.2.1 hX.2.2.2.2.2.2.2.2.1.1.1 hS hX.2.2.2.1 (hX.2.2.2.2.1 _ hw) (fun _ h => h) hd (kk L H locs lc h0 hP hS hl)
theorem wp_abov {idx : Nat} (hX : Good X own cc d C S) (hw : Cond.fieldLink own idx "CutFromOthers$Stones" "ABOVE" "[I" ∈ x_tbl) (hd : decode cc pc = .ok (.getstatic idx, 3)) (kk : WP X cells slots (pc + 3) ls (.ref 1002 :: st) M) : WP X cells slots pc ls st M := by
  obtain ⟨⟨p, l, e, R, s, m, args, below, meth, c⟩, Z, A, D, ty, xt, nL, L0⟩ := X
  intro L H locs lc h0 hP hS hl
  exact va_gets hX.1 hX.2.1 hX.2.2.2.2.2.2.2.2.1.2.1.1 hS hX.2.2.2.1 (hX.2.2.2.2.1 _ hw) (fun _ h => h) hd (kk L H locs lc h0 hP hS hl)
theorem wp_bods {idx : Nat} (hX : Good X own cc d C S) (hw : Cond.fieldLink own idx "CutFromOthers$Stones" "BODIES" "[I" ∈ x_tbl) (hd : decode cc pc = .ok (.getstatic idx, 3)) (kk : WP X cells slots (pc + 3) ls (.ref 1003 :: st) M) : WP X cells slots pc ls st M := by
  obtain ⟨⟨p, l, e, R, s, m, args, below, meth, c⟩, Z, A, D, ty, xt, nL, L0⟩ := X
  intro L H locs lc h0 hP hS hl
  exact va_gets hX.1 hX.2.1 hX.2.2.2.2.2.2.2.2.1.2.2.1.1 hS hX.2.2.2.1 (hX.2.2.2.2.1 _ hw) (fun _ h => h) hd (kk L H locs lc h0 hP hS hl)
theorem wp_t1 {i : Int32} (hX : Good X own cc d C S) (hd : decode cc pc = .ok (.iaload, 1)) (hi : vp_in i 3) (kk : WP X cells slots (pc + 1) ls (.int (x_most i.toNatClampNeg) :: st) M) : WP X cells slots pc ls (.int i :: .ref 1001 :: st) M := by
  obtain ⟨⟨p, l, e, R, s, m, args, below, meth, c⟩, Z, A, D, ty, xt, nL, L0⟩ := X
  intro L H locs lc h0 hP hS hl
  exact va_ti hX.1 hX.2.1 hX.2.2.2.2.2.2.2.2.1.1.2 hS hi rfl hd (kk L H locs lc h0 hP hS hl)
theorem wp_t2 {i : Int32} (hX : Good X own cc d C S) (hd : decode cc pc = .ok (.iaload, 1)) (hi : vp_in i 8) (kk : WP X cells slots (pc + 1) ls (.int (x_abov i.toNatClampNeg) :: st) M) : WP X cells slots pc ls (.int i :: .ref 1002 :: st) M := by
  obtain ⟨⟨p, l, e, R, s, m, args, below, meth, c⟩, Z, A, D, ty, xt, nL, L0⟩ := X
  intro L H locs lc h0 hP hS hl
  exact va_ti hX.1 hX.2.1 hX.2.2.2.2.2.2.2.2.1.2.1.2 hS hi rfl hd (kk L H locs lc h0 hP hS hl)
theorem wp_t3 {i : Int32} (hX : Good X own cc d C S) (hd : decode cc pc = .ok (.iaload, 1)) (hi : vp_in i 32) (kk : WP X cells slots (pc + 1) ls (.int (x_bods i.toNatClampNeg) :: st) M) : WP X cells slots pc ls (.int i :: .ref 1003 :: st) M := by
  obtain ⟨⟨p, l, e, R, s, m, args, below, meth, c⟩, Z, A, D, ty, xt, nL, L0⟩ := X
  intro L H locs lc h0 hP hS hl
  exact va_ti hX.1 hX.2.1 hX.2.2.2.2.2.2.2.2.1.2.2.1.2 hS hi rfl hd (kk L H locs lc h0 hP hS hl)
/-- a string constant of the tape -/
theorem wp_ldcS {idx i : Nat} {q : Nat × String} (hX : Good X "CutFromOthers$Tape" cc d C S) (hq : x_sr[i]? = some q) (hi : q.1 = idx) (hd : decode cc pc = .ok (.ldc idx, 2)) (kk : WP X cells slots (pc + 2) ls (.ref (1010 + i) :: st) M) : WP X cells slots pc ls st M := by
  obtain ⟨⟨p, l, e, R, s, m, args, below, meth, c⟩, Z, A, D, ty, xt, nL, L0⟩ := X
  intro L H locs lc h0 hP hS hl
  subst hi
  have key := kk L H locs lc h0 hP hS hl
  have e1 : cv xt L (.ref (1010 + i)) = .ref (xt (1010 + i)) := by
    show Value.ref (x_ad xt L (1010 + i)) = _
    unfold x_ad
    rw [if_neg (by omega)]
  rw [List.map_cons, e1] at key
  exact va_ldcS hX.1 hX.2.1 hX.2.2.2.1 (hX.2.2.2.2.2.2.2.2.2.1.1 i q hq) hd key
theorem x_ad_x {xt : Nat → Nat} {L : List Nat} {k : Nat} (h : 1000 ≤ k) : x_ad xt L k = xt k := by
  unfold x_ad
  rw [if_neg (by omega)]
/-- fields of a string constant -/
theorem wp_coder {idx i : Nat} (hX : Good X own cc d C S) (hi : i < 6) (hw : Cond.fieldLink own idx "java/lang/String" "coder" "B" ∈ x_tbl) (hd : decode cc pc = .ok (.getfield idx, 3)) (kk : WP X cells slots (pc + 3) ls (.int 0 :: st) M) : WP X cells slots pc ls (.ref (1010 + i) :: st) M := by
  obtain ⟨⟨p, l, e, R, s, m, args, below, meth, c⟩, Z, A, D, ty, xt, nL, L0⟩ := X
  intro L H locs lc h0 hP hS hl
  rw [List.map_cons, show cv xt L (.ref (1010 + i)) = .ref (xt (1010 + i)) from congrArg Value.ref (x_ad_x (by omega))]
  exact vk_getf hX.1 hX.2.1 (hX.2.2.2.2.2.2.2.2.1.2.2.2.1.1 i hi).2.1 hS hX.2.2.2.1 (hX.2.2.2.2.1 _ hw) (fun _ h => h) hd (kk L H locs lc h0 hP hS hl)
theorem wp_value {idx i : Nat} (hX : Good X own cc d C S) (hi : i < 6) (hw : Cond.fieldLink own idx "java/lang/String" "value" "[B" ∈ x_tbl) (hd : decode cc pc = .ok (.getfield idx, 3)) (kk : WP X cells slots (pc + 3) ls (.ref (1020 + i) :: st) M) : WP X cells slots pc ls (.ref (1010 + i) :: st) M := by
  obtain ⟨⟨p, l, e, R, s, m, args, below, meth, c⟩, Z, A, D, ty, xt, nL, L0⟩ := X
  intro L H locs lc h0 hP hS hl
  rw [List.map_cons, show cv xt L (.ref (1010 + i)) = .ref (xt (1010 + i)) from congrArg Value.ref (x_ad_x (by omega))]
  have key := kk L H locs lc h0 hP hS hl
  rw [List.map_cons, show cv xt L (.ref (1020 + i)) = .ref (xt (1020 + i)) from congrArg Value.ref (x_ad_x (by omega))] at key
  exact vk_getf hX.1 hX.2.1 (hX.2.2.2.2.2.2.2.2.1.2.2.2.1.1 i hi).2.2.1 hS hX.2.2.2.1 (hX.2.2.2.2.1 _ hw) (fun _ h => h) hd key
theorem wp_compact {idx : Nat} (hX : Good X own cc d C S) (hw : Cond.fieldLink own idx "java/lang/String" "COMPACT_STRINGS" "Z" ∈ x_tbl) (hd : decode cc pc = .ok (.getstatic idx, 3)) (kk : WP X cells slots (pc + 3) ls (.int 1 :: st) M) : WP X cells slots pc ls st M := by
  obtain ⟨⟨p, l, e, R, s, m, args, below, meth, c⟩, Z, A, D, ty, xt, nL, L0⟩ := X
  intro L H locs lc h0 hP hS hl
  exact va_gets hX.1 hX.2.1 hX.2.2.2.2.2.2.2.2.1.2.2.2.2 hS hX.2.2.2.1 (hX.2.2.2.2.1 _ hw) (fun _ h => h) hd (kk L H locs lc h0 hP hS hl)
theorem wp_sbyte {i : Nat} {j : Int32} (hX : Good X own cc d C S) (hi : i < 6) (hd : decode cc pc = .ok (.baload, 1)) (hj : vp_in j (x_sl.getD i 0)) (kk : WP X cells slots (pc + 1) ls (.int ((x_sb.getD i []).getD j.toNatClampNeg 0) :: st) M) : WP X cells slots pc ls (.int j :: .ref (1020 + i) :: st) M := by
  obtain ⟨⟨p, l, e, R, s, m, args, below, meth, c⟩, Z, A, D, ty, xt, nL, L0⟩ := X
  intro L H locs lc h0 hP hS hl
  rw [List.map_cons, List.map_cons, show cv xt L (.ref (1020 + i)) = .ref (xt (1020 + i)) from congrArg Value.ref (x_ad_x (by omega))]
  exact va_tb hX.1 hX.2.1 (hX.2.2.2.2.2.2.2.2.1.2.2.2.1.1 i hi).2.2.2 hS hj rfl hd (kk L H locs lc h0 hP hS hl)
theorem wp_slen {i : Nat} (hX : Good X own cc d C S) (hi : i < 6) (hd : decode cc pc = .ok (.arraylength, 1)) (kk : WP X cells slots (pc + 1) ls (.int (Int32.ofNat (x_sl.getD i 0)) :: st) M) : WP X cells slots pc ls (.ref (1020 + i) :: st) M := by
  obtain ⟨⟨p, l, e, R, s, m, args, below, meth, c⟩, Z, A, D, ty, xt, nL, L0⟩ := X
  intro L H locs lc h0 hP hS hl
  rw [List.map_cons, show cv xt L (.ref (1020 + i)) = .ref (xt (1020 + i)) from congrArg Value.ref (x_ad_x (by omega))]
  exact va_tlen hX.1 hX.2.1 (hX.2.2.2.2.2.2.2.2.1.2.2.2.1.1 i hi).2.2.2 hS rfl hd (kk L H locs lc h0 hP hS hl)
/-- a method of a string constant -/
theorem wp_invT' {i : mI} {n idx b : Nat} {As : List Value} {Q : Option Value → mM → Prop} (hX : Good X own cc (d + 1) C S) (hm : MF i n) (hl : Cond.methodLink own idx i.1 ∈ x_tbl) (hi : Cond.instanceMethod i.1 ∈ x_tbl) (hsel : Cond.selects i.1.cls i.1 i.1 ∈ x_tbl) (hC0 : i.1.cls = "java/lang/String") (hb : b < 6) (hd : decode cc pc = .ok (.invokevirtual idx, 3)) (hn : As.length = n) (hst : (st.map fun v => v.category).sum ≤ 8) (hcells : cells ≤ C) (hslots : slots ≤ S) (hct : CT d 0 0 i (.ref (1010 + b) :: As) M Q)
    (hold : ∀ M' : mM, (∃ r, Q r M') → m_n M' = m_n M)
    (kk : ∀ r M', Q r M' → WP X cells slots (pc + 3) ls (r.toList ++ st) M') : WP X cells slots pc ls (As.reverse ++ .ref (1010 + b) :: st) M := by
  obtain ⟨⟨p, l, e, R, s, m, args, below, meth, c⟩, Z, A, D, ty, xt, nL, L0⟩ := X
  intro L H locs lc h0 hP hS hlr
  have hrecv := vk_recv hX.2.2.2.2.2.2.2.2.1.2.2.2.1 hb hS
  have hts := hX.2.2.2.2.1
  obtain ⟨hm1, hm2, hm3, hm4⟩ := hm
  have hR : (x_rm d 0 0).frames + 1 ≤ R.frames ∧ 8 + (i.2.2.1 + 11) + (x_rm d 0 0).locals ≤ R.locals := by
    have h1 := hX.2.2.2.2.2.2.2.2.2.2.1
    have h2 := hX.2.2.2.2.2.2.2.2.2.2.2.1
    exact ⟨h1, by show 8 + (i.2.2.1 + 11) + 64 * d ≤ R.locals; omega⟩
  have hf : cells + 0 ≤ R.cells ∧ slots + 0 ≤ R.slots := ⟨Nat.le_trans hcells hX.2.2.2.2.2.2.2.2.2.2.2.2.1, Nat.le_trans hslots hX.2.2.2.2.2.2.2.2.2.2.2.2.2⟩
  have e0 : x_ad xt L (1010 + b) = xt (1010 + b) := x_ad_x (by omega)
  have hpre := x_pre (X := ((p, l, e, R, s, m, args, below, meth, c), Z, A, D, ty, xt, nL, L0)) hX hP hS (.ref (1010 + b) :: As)
  have est : (As.reverse ++ .ref (1010 + b) :: st).map (cv xt L) = (As.map (cv xt L)).reverse ++ Value.ref (x_ad xt L (1010 + b)) :: st.map (cv xt L) := by
    rw [List.map_append, List.map_reverse]
    rfl
  have hCF : CallFix p m c cc nL s args x_tbl own := ⟨hX.1, hX.2.1, hX.2.2.1, hX.2.2.2.1, hts⟩
  have hst' : 2 * (F0 m pc lc ((As.map (cv xt L)).reverse ++ Value.ref (x_ad xt L (1010 + b)) :: st.map (cv xt L))).monitorRoom + ((st.map (cv xt L)).map fun v => v.category).sum ≤ 8 := lv_room (by rw [x_cats]; exact hst)
  have run : va_Run p l e R s m args below meth c H locs cells slots 0 0 (F0 m pc lc ((As.map (cv xt L)).reverse ++ Value.ref (x_ad xt L (1010 + b)) :: st.map (cv xt L))) (st.map (cv xt L)) (QO D ty xt (va_A (x_ws ty xt L M) H.size) L Q (Value.ref (x_ad xt L (1010 + b)) :: As.map (cv xt L)).toArray) (va_A (x_ws ty xt L M) H.size) :=
    va_runV (C := i.1.cls) (As := As.map (cv xt L)) (rest := st.map (cv xt L)) hCF (hct l D ty xt L H.size) ⟨callB_of n hts (x_gd hm1) rfl rfl rfl (hts _ hm2) (hts _ hl) hm3 hR, hts _ hi, hts _ hsel⟩ ⟨hpre.1, by rw [hC0, e0]; exact hrecv, hpre.2⟩ rfl (by simpa using hn) hlr.1 rfl hst' hd hf
  rw [est]
  exact x_go hX h0 hP hS hlr run (fun M' h => Or.inl (hold M' h)) kk
/-- THE SCRIPT (1000), of L ints xs: the law's own -/
def x_scr : cxT → Nat → (Nat → Int32) → Prop
  | ((_, _, _, _, s, _, _, _, _, _), _, A, _, _, xt, _, _), L, xs => va_X (xt 1000) L xs s s.heap ∧ xt 1000 < s.heap.size ∧ ¬ A (xt 1000)
theorem wp_sld {i : Int32} {n : Nat} {xs : Nat → Int32} (hX : Good X own cc d C S) (hs : x_scr X n xs) (hd : decode cc pc = .ok (.iaload, 1)) (hi : vp_in i n) (kk : WP X cells slots (pc + 1) ls (.int (xs i.toNatClampNeg) :: st) M) : WP X cells slots pc ls (.int i :: .ref 1000 :: st) M := by
  obtain ⟨⟨p, l, e, R, s, m, args, below, meth, c⟩, Z, A, D, ty, xt, nL, L0⟩ := X
  intro L H locs lc h0 hP hS hl
  exact va_sld hX.1 hX.2.1 hs.1 hs.2.1 hs.2.2 hS hi hd (kk L H locs lc h0 hP hS hl)
theorem wp_sln {n : Nat} {xs : Nat → Int32} (hX : Good X own cc d C S) (hs : x_scr X n xs) (hd : decode cc pc = .ok (.arraylength, 1)) (kk : WP X cells slots (pc + 1) ls (.int (nI n) :: st) M) : WP X cells slots pc ls (.ref 1000 :: st) M := by
  obtain ⟨⟨p, l, e, R, s, m, args, below, meth, c⟩, Z, A, D, ty, xt, nL, L0⟩ := X
  intro L H locs lc h0 hP hS hl
  exact va_slen hX.1 hX.2.1 hs.1 hs.2.1 hs.2.2 hS hd (kk L H locs lc h0 hP hS hl)
end PRIM2
