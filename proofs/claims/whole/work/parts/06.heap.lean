/-! FIELDS, ARRAYS, NEW CELLS -/
def x_kt : FieldType → Nat
  | .int => 1
  | .boolean => 2
  | .object _ => 0
  | .array _ => 0
  | _ => 9
/-- what is known of a class of the list -/
def CF (ci : Nat) (C : String) (T : u_T) (N : Nat) (ty : Nat → FieldType) : Prop :=
  vwCl[ci]? = some (C, T, N) ∧ (x_ft.getD ci []).length = N ∧ ci < 12 ∧ (∀ w ∈ u_ws C T N, w ∈ x_tbl) ∧ (∀ k, k < N → parseFieldDescriptor (T k).2.2.1 = some (ty k)) ∧ (∀ a, a < N → ∀ b, b < N → a ≠ b → (T a).2.1 ≠ (T b).2.1) ∧ ∀ k, k < N → x_kt (ty k) = (x_ft.getD ci []).getD k 9
/-- entry idx of the class own: field k of class ci, of sort t -/
def FL (own : String) (idx ci k t : Nat) : Prop := ∃ (C : String) (T : u_T) (N : Nat) (ty : Nat → FieldType), CF ci C T N ty ∧ k < N ∧ (x_ft.getD ci [])[k]? = some t ∧ ((Cond.fieldLink own idx (T k).1 (T k).2.1 (T k).2.2.1 ∈ x_tbl) ∨ ∃ host, (own, idx, (T k).1, (T k).2.1, (T k).2.2.1, host) ∈ x_nF)
/-- the same, to be written: not final, or final and in a constructor of the class -/
def FP (own : String) (idx ci k t : Nat) : Prop := ∃ (C : String) (T : u_T) (N : Nat) (ty : Nat → FieldType), CF ci C T N ty ∧ k < N ∧ (x_ft.getD ci [])[k]? = some t ∧ (Cond.fieldLink own idx (T k).1 (T k).2.1 (T k).2.2.1 ∈ x_tbl) ∧ (T k).2.2.2 = false
def FF (own : String) (idx ci k t : Nat) : Prop := ∃ (C : String) (T : u_T) (N : Nat) (ty : Nat → FieldType), CF ci C T N ty ∧ k < N ∧ (x_ft.getD ci [])[k]? = some t ∧ (Cond.fieldLink own idx (T k).1 (T k).2.1 (T k).2.2.1 ∈ x_tbl) ∧ (T k).2.2.2 = true ∧ (T k).1 = own
theorem x_cl_o {ty : Nat → ClassId} {ad : Nat → Nat} {M : mM} {a ci : Nat} (h : m_k M a = ci) (hc : ci < 12) : x_cl ty ad M a = .inr (ci, x_fs (x_ft.getD ci []) (m_i M a) (fun j => va_rf ((m_r M a j).map ad))) := by
  subst h
  unfold x_cl
  rw [if_neg (by omega), if_neg (by omega), if_neg (by omega)]
theorem x_cl_i {ty : Nat → ClassId} {ad : Nat → Nat} {M : mM} {a : Nat} (h : m_k M a = 12) : x_cl ty ad M a = .inl (ty 0, m_l M a, .inl (m_i M a)) := by
  unfold x_cl
  rw [if_pos h]
theorem x_cl_j {ty : Nat → ClassId} {ad : Nat → Nat} {M : mM} {a : Nat} (h : m_k M a = 13) : x_cl ty ad M a = .inl (ty 1, m_l M a, .inr (.inl (m_j M a))) := by
  unfold x_cl
  rw [if_neg (by omega), if_pos h]
theorem x_cl_r {ty : Nat → ClassId} {ad : Nat → Nat} {M : mM} {a : Nat} (h : m_k M a = 14) : x_cl ty ad M a = .inl (ty 2, m_l M a, .inr (.inr (.inr (.inr (fun j => (m_r M a j).map ad))))) := by
  unfold x_cl
  rw [if_neg (by omega), if_neg (by omega), if_pos h]
theorem x_cl_eq {ty : Nat → ClassId} {ad : Nat → Nat} {M M' : mM} {b : Nat} (h1 : m_k M' b = m_k M b) (h2 : m_l M' b = m_l M b) (h3 : m_i M' b = m_i M b) (h4 : m_j M' b = m_j M b) (h5 : m_r M' b = m_r M b) : x_cl ty ad M' b = x_cl ty ad M b := by
  unfold x_cl
  rw [h1, h2, h3, h4, h5]
/-- a cell written: the picture goes along -/
theorem PR.put {D : va_G} {ty : Nat → ClassId} {xt : Nat → Nat} {A : Nat → Prop} {L : List Nat} {M M' : mM} {H H1 : Heap} {a : Nat} {e : va_E} (h : PR D ty xt A L M H) (ha : a < m_n M) (hn : m_n M' = m_n M) (he : x_cl ty (x_ad xt L) M' a = e) (hr : ∀ b, b ≠ a → x_cl ty (x_ad xt L) M' b = x_cl ty (x_ad xt L) M b) (hw : ∀ b j r, b < m_n M' → m_r M' b j = some r → r < m_n M') (h1 : va_P D vwCl ((x_ws ty xt L M).set a (x_ad xt L a, e)) H1) (h2 : va_D A ((x_ws ty xt L M).set a (x_ad xt L a, e))) : PR D ty xt A L M' H1 := by
  rw [x_ws_set ha hn he hr] at h1 h2
  exact ⟨by rw [hn]; exact h.1, by rw [hn]; exact h.2.1, hw, h1, h2⟩
section HEAP
variable {X : cxT} {own : String} {cc : ByteArray} {d C S cells slots pc : Nat} {ls : List (Option Value)} {st : List Value} {M : mM}
theorem wp_get {idx ci k t a : Nat} (hX : Good X own cc d C S) (hf : FL own idx ci k t) (hd : decode cc pc = .ok (.getfield idx, 3)) (ha : a < m_n M) (hk : m_k M a = ci) {v : Value}
    (hv : ∀ ad : Nat → Nat, (if t = 0 then va_rf ((m_r M a k).map ad) else .int (m_i M a k)) = (match v with
      | .ref r => .ref (ad r)
      | w => w)) (hlt : ∀ r, v = .ref r → r < 1000) (kk : WP X cells slots (pc + 3) ls (v :: st) M) : WP X cells slots pc ls (.ref a :: st) M := by
  obtain ⟨⟨p, l, e, R, s, m, args, below, meth, c⟩, Z, A, D, ty, xt, nL, L0⟩ := X
  intro L H locs lc h0 hP hS hl
  obtain ⟨C0, T, N, ty0, hC, hkN, ht, hlink⟩ := hf
  have hcell := x_ws_at (ty := ty) (xt := xt) (L := L) ha
  rw [x_cl_o hk hC.2.2.1] at hcell
  have hcv : (if t = 0 then va_rf ((m_r M a k).map (x_ad xt L)) else .int (m_i M a k)) = cv xt L v := by
    rw [hv (x_ad xt L)]
    cases v <;> rfl
  have hat := x_fs_at (fi := m_i M a) (fr := fun j => va_rf ((m_r M a j).map (x_ad xt L))) ht
  rw [hcv] at hat
  rcases hlink with hlink | ⟨host, hlink⟩
  · exact va_get hX.1 hX.2.1 hX.2.2.2.2.1 hC.2.2.2.1 hX.2.2.2.1 hX.2.2.2.2.2.2.1 hP.2.2.2.1 a hcell hC.1 k hkN (hX.2.2.2.2.1 _ hlink) (fun _ h9 => h9) hat hd (kk L H locs lc h0 hP hS hl)
  · exact va_getN hX.1 hX.2.1 hX.2.2.2.2.1 hC.2.2.2.1 hX.2.2.2.1 hX.2.2.2.2.2.2.1 hP.2.2.2.1 a hcell hC.1 k hkN ((hX.2.2.2.2.2.2.2.2.2.1.2.1 _ hlink).use rfl) (fun _ h9 => h9) hat hd (kk L H locs lc h0 hP hS hl)
/-- an int field (a boolean) -/
theorem wp_geti {idx ci k t a : Nat} (hX : Good X own cc d C S) (hf : FL own idx ci k t) (hd : decode cc pc = .ok (.getfield idx, 3)) (ht : ¬ t = 0) (ha : a < m_n M) (hk : m_k M a = ci) (kk : WP X cells slots (pc + 3) ls (.int (m_i M a k) :: st) M) : WP X cells slots pc ls (.ref a :: st) M :=
  wp_get hX hf hd ha hk (v := .int (m_i M a k)) (fun ad => by rw [if_neg ht]) (fun r h => by cases h) kk
/-- a field that holds a reference -/
theorem wp_getr {idx ci k a r : Nat} (hX : Good X own cc d C S) (hf : FL own idx ci k 0) (hd : decode cc pc = .ok (.getfield idx, 3)) (ha : a < m_n M) (hk : m_k M a = ci) (hr : m_r M a k = some r) (hlt : r < 1000) (kk : WP X cells slots (pc + 3) ls (.ref r :: st) M) : WP X cells slots pc ls (.ref a :: st) M :=
  wp_get hX hf hd ha hk (v := .ref r) (fun ad => by rw [if_pos rfl, hr]; rfl) (fun r' h => by cases h; exact hlt) kk
theorem x_kt_1 {ty : FieldType} (h : x_kt ty = 1) : ty = .int := by cases ty <;> first | rfl | (simp [x_kt] at h)
theorem x_kt_2 {ty : FieldType} (h : x_kt ty = 2) : ty = .boolean := by cases ty <;> first | rfl | (simp [x_kt] at h)
theorem x_kt_0 {ty : FieldType} (h : x_kt ty = 0) (r : Nat) : narrow ty (.ref r) = .ref r ∧ fits ty (.ref r) = true := by cases ty <;> first | exact ⟨rfl, rfl⟩ | (simp [x_kt] at h)
theorem CF.kt {ci : Nat} {C0 : String} {T : u_T} {N : Nat} {ty : Nat → FieldType} (h : CF ci C0 T N ty) {k t : Nat} (hk : k < N) (ht : (x_ft.getD ci [])[k]? = some t) : x_kt (ty k) = t := by
  rw [h.2.2.2.2.2.2 k hk, List.getD_eq_getElem?_getD, ht]
  rfl
theorem wp_puti {idx ci k a : Nat} {v : Int32} (hX : Good X own cc d C S) (hf : FP own idx ci k 1) (hd : decode cc pc = .ok (.putfield idx, 3)) (ha : a < m_n M) (hk : m_k M a = ci) (kk : WP X cells slots (pc + 3) ls st (m_seti M a k v)) : WP X cells slots pc ls (.int v :: .ref a :: st) M := by
  obtain ⟨⟨p, l, e, R, s, m, args, below, meth, c⟩, Z, A, D, ty, xt, nL, L0⟩ := X
  intro L H locs lc h0 hP hS hl
  obtain ⟨C0, T, N, ty0, hC, hkN, ht, hlink, hfin⟩ := hf
  have hcell := x_ws_at (ty := ty) (xt := xt) (L := L) ha
  rw [x_cl_o hk hC.2.2.1] at hcell
  have hty := x_kt_1 (hC.kt hkN ht)
  have hd1 := hC.2.2.2.2.1 k hkN
  rw [hty] at hd1
  refine va_put hX.1 hX.2.1 hX.2.2.2.2.1 hC.2.2.2.1 ty0 hC.2.2.2.2.1 hC.2.2.2.2.2.1 hX.2.2.2.1 hX.2.2.2.2.2.2.1 hP.2.2.2.1 hP.2.2.2.2 hS a hcell hC.1 k hkN (hX.2.2.2.2.1 _ hlink) (fun _ h9 => h9) hfin (ty := .int) (v := .int v) hd1 rfl rfl (by rw [x_fs_len, hC.2.1]; exact hkN) hd (fun H1 locs1 h1 h2 h3 => ?_)
  refine kk L H1 locs1 lc h0 (hP.put (M' := m_seti M a k v) ha rfl ?_ (fun b hb => x_cl_eq rfl rfl (u2_ne _ _ _ hb) rfl rfl) hP.2.2.1 h1 h2) h3 hl
  rw [x_cl_o (show m_k (m_seti M a k v) a = ci from hk) hC.2.2.1, x_fs_seti ht (by decide)]
  show Sum.inr (ci, x_fs _ (u2 (m_i M) a k v a) _) = _
  rw [u2_row]
theorem wp_putz {idx ci k a : Nat} {v : Int32} (hX : Good X own cc d C S) (hf : FP own idx ci k 2) (hd : decode cc pc = .ok (.putfield idx, 3)) (hv : narrow .boolean (.int v) = .int v ∧ fits .boolean (.int v) = true) (ha : a < m_n M) (hk : m_k M a = ci) (kk : WP X cells slots (pc + 3) ls st (m_seti M a k v)) : WP X cells slots pc ls (.int v :: .ref a :: st) M := by
  obtain ⟨⟨p, l, e, R, s, m, args, below, meth, c⟩, Z, A, D, ty, xt, nL, L0⟩ := X
  intro L H locs lc h0 hP hS hl
  obtain ⟨C0, T, N, ty0, hC, hkN, ht, hlink, hfin⟩ := hf
  have hcell := x_ws_at (ty := ty) (xt := xt) (L := L) ha
  rw [x_cl_o hk hC.2.2.1] at hcell
  have hty := x_kt_2 (hC.kt hkN ht)
  have hd1 := hC.2.2.2.2.1 k hkN
  rw [hty] at hd1
  refine va_put hX.1 hX.2.1 hX.2.2.2.2.1 hC.2.2.2.1 ty0 hC.2.2.2.2.1 hC.2.2.2.2.2.1 hX.2.2.2.1 hX.2.2.2.2.2.2.1 hP.2.2.2.1 hP.2.2.2.2 hS a hcell hC.1 k hkN (hX.2.2.2.2.1 _ hlink) (fun _ h9 => h9) hfin (ty := .boolean) (v := .int v) hd1 hv.1 hv.2 (by rw [x_fs_len, hC.2.1]; exact hkN) hd (fun H1 locs1 h1 h2 h3 => ?_)
  refine kk L H1 locs1 lc h0 (hP.put (M' := m_seti M a k v) ha rfl ?_ (fun b hb => x_cl_eq rfl rfl (u2_ne _ _ _ hb) rfl rfl) hP.2.2.1 h1 h2) h3 hl
  rw [x_cl_o (show m_k (m_seti M a k v) a = ci from hk) hC.2.2.1, x_fs_seti ht (by decide)]
  show Sum.inr (ci, x_fs _ (u2 (m_i M) a k v a) _) = _
  rw [u2_row]
theorem x_wf_setr {M : mM} {a k r : Nat} (h : ∀ b j q, b < m_n M → m_r M b j = some q → q < m_n M) (hr : r < m_n M) : ∀ b j q, b < m_n (m_setr M a k (some r)) → m_r (m_setr M a k (some r)) b j = some q → q < m_n (m_setr M a k (some r)) := by
  intro b j q hb hq
  have hq : u2 (m_r M) a k (some r) b j = some q := hq
  show q < m_n M
  unfold u2 at hq
  split at hq
  · split at hq
    · cases hq; exact hr
    · exact h b j q hb hq
  · exact h b j q hb hq
theorem x_fs_setr2 {ts : List Nat} {fi : Nat → Int32} {f : Nat → Nat → Option Nat} {ad : Nat → Nat} {a k r : Nat} (ht : ts[k]? = some 0) : (x_fs ts fi (fun j => va_rf ((f a j).map ad))).set k (Value.ref (ad r)) = x_fs ts fi (fun j => va_rf ((u2 f a k (some r) a j).map ad)) := by
  have e3 : Value.ref (ad r) = (fun j => va_rf ((u2 f a k (some r) a j).map ad)) k := by
    simp [u2, va_rf]
  rw [e3]
  exact x_fs_setr (fr := fun j => va_rf ((f a j).map ad)) (fr2 := fun j => va_rf ((u2 f a k (some r) a j).map ad)) ht (fun j hj => by simp [u2, hj])
theorem wp_putr {idx ci k a r : Nat} (hX : Good X own cc d C S) (hf : FP own idx ci k 0) (hd : decode cc pc = .ok (.putfield idx, 3)) (ha : a < m_n M) (hk : m_k M a = ci) (hr : r < m_n M) (kk : WP X cells slots (pc + 3) ls st (m_setr M a k (some r))) : WP X cells slots pc ls (.ref r :: .ref a :: st) M := by
  obtain ⟨⟨p, l, e, R, s, m, args, below, meth, c⟩, Z, A, D, ty, xt, nL, L0⟩ := X
  intro L H locs lc h0 hP hS hl
  obtain ⟨C0, T, N, ty0, hC, hkN, ht, hlink, hfin⟩ := hf
  have hcell := x_ws_at (ty := ty) (xt := xt) (L := L) ha
  rw [x_cl_o hk hC.2.2.1] at hcell
  have hty := x_kt_0 (hC.kt hkN ht) (x_ad xt L r)
  refine va_put hX.1 hX.2.1 hX.2.2.2.2.1 hC.2.2.2.1 ty0 hC.2.2.2.2.1 hC.2.2.2.2.2.1 hX.2.2.2.1 hX.2.2.2.2.2.2.1 hP.2.2.2.1 hP.2.2.2.2 hS a hcell hC.1 k hkN (hX.2.2.2.2.1 _ hlink) (fun _ h9 => h9) hfin (v := .ref (x_ad xt L r)) (hC.2.2.2.2.1 k hkN) hty.1 hty.2 (by rw [x_fs_len, hC.2.1]; exact hkN) hd (fun H1 locs1 h1 h2 h3 => ?_)
  refine kk L H1 locs1 lc h0 (hP.put (M' := m_setr M a k (some r)) ha rfl ?_ (fun b hb => x_cl_eq rfl rfl rfl rfl (u2_ne _ _ _ hb)) (x_wf_setr hP.2.2.1 hr) h1 h2) h3 hl
  rw [x_cl_o (show m_k (m_setr M a k (some r)) a = ci from hk) hC.2.2.1]
  exact congrArg (fun z => Sum.inr (ci, z)) (x_fs_setr2 ht).symm
theorem wp_putF {idx ci k a r : Nat} (hX : Good X own cc d C S) (hin : x_init X) (hf : FF own idx ci k 0) (hd : decode cc pc = .ok (.putfield idx, 3)) (ha : a < m_n M) (hk : m_k M a = ci) (hr : r < m_n M) (kk : WP X cells slots (pc + 3) ls st (m_setr M a k (some r))) : WP X cells slots pc ls (.ref r :: .ref a :: st) M := by
  obtain ⟨⟨p, l, e, R, s, m, args, below, meth, c⟩, Z, A, D, ty, xt, nL, L0⟩ := X
  intro L H locs lc h0 hP hS hl
  obtain ⟨C0, T, N, ty0, hC, hkN, ht, hlink, hfin, hown2⟩ := hf
  have hcell := x_ws_at (ty := ty) (xt := xt) (L := L) ha
  rw [x_cl_o hk hC.2.2.1] at hcell
  have hty := x_kt_0 (hC.kt hkN ht) (x_ad xt L r)
  refine va_putF hX.1 hX.2.1 hX.2.2.2.2.1 hC.2.2.2.1 ty0 hC.2.2.2.2.1 hC.2.2.2.2.2.1 hX.2.2.2.1 hX.2.2.2.2.2.2.1 hP.2.2.2.1 hP.2.2.2.2 hS a hcell hC.1 k hkN (hX.2.2.2.2.1 _ hlink) (fun _ h9 => h9) hfin hin hown2 (v := .ref (x_ad xt L r)) (hC.2.2.2.2.1 k hkN) hty.1 hty.2 (by rw [x_fs_len, hC.2.1]; exact hkN) hd (fun H1 locs1 h1 h2 h3 => ?_)
  refine kk L H1 locs1 lc h0 (hP.put (M' := m_setr M a k (some r)) ha rfl ?_ (fun b hb => x_cl_eq rfl rfl rfl rfl (u2_ne _ _ _ hb)) (x_wf_setr hP.2.2.1 hr) h1 h2) h3 hl
  rw [x_cl_o (show m_k (m_setr M a k (some r)) a = ci from hk) hC.2.2.1]
  exact congrArg (fun z => Sum.inr (ci, z)) (x_fs_setr2 ht).symm
/-- arrays of ints -/
theorem wp_iald {a : Nat} {i : Int32} (hX : Good X own cc d C S) (hd : decode cc pc = .ok (.iaload, 1)) (ha : a < m_n M) (hk : m_k M a = 12) (hi : vp_in i (m_l M a)) (kk : WP X cells slots (pc + 1) ls (.int (m_i M a i.toNatClampNeg) :: st) M) : WP X cells slots pc ls (.int i :: .ref a :: st) M := by
  obtain ⟨⟨p, l, e, R, s, m, args, below, meth, c⟩, Z, A, D, ty, xt, nL, L0⟩ := X
  intro L H locs lc h0 hP hS hl
  have hcell := x_ws_at (ty := ty) (xt := xt) (L := L) ha
  rw [x_cl_i hk] at hcell
  exact va_iald hX.1 hX.2.1 hX.2.2.2.2.2.2.1 hP.2.2.2.1 a 0 hcell rfl hi hd (kk L H locs lc h0 hP hS hl)
theorem wp_iast {a : Nat} {i v : Int32} (hX : Good X own cc d C S) (hd : decode cc pc = .ok (.iastore, 1)) (ha : a < m_n M) (hk : m_k M a = 12) (hi : vp_in i (m_l M a)) (kk : WP X cells slots (pc + 1) ls st (m_seti M a i.toNatClampNeg v)) : WP X cells slots pc ls (.int v :: .int i :: .ref a :: st) M := by
  obtain ⟨⟨p, l, e, R, s, m, args, below, meth, c⟩, Z, A, D, ty, xt, nL, L0⟩ := X
  intro L H locs lc h0 hP hS hl
  have hcell := x_ws_at (ty := ty) (xt := xt) (L := L) ha
  rw [x_cl_i hk] at hcell
  refine va_iast hX.1 hX.2.1 hX.2.2.2.2.2.2.1 hP.2.2.2.1 hP.2.2.2.2 hS a 0 hcell rfl hi hd (fun H1 locs1 h1 h2 h3 => ?_)
  refine kk L H1 locs1 lc h0 (hP.put (M' := m_seti M a i.toNatClampNeg v) ha rfl ?_ (fun b hb => x_cl_eq rfl rfl (u2_ne _ _ _ hb) rfl rfl) hP.2.2.1 h1 h2) h3 hl
  rw [x_cl_i (show m_k (m_seti M a i.toNatClampNeg v) a = 12 from hk)]
  show Sum.inl (ty 0, m_l M a, Sum.inl (u2 (m_i M) a i.toNatClampNeg v a)) = _
  rw [u2_row]
  rfl
/-- arrays of longs -/
theorem wp_lald {a : Nat} {i : Int32} (hX : Good X own cc d C S) (hd : decode cc pc = .ok (.laload, 1)) (ha : a < m_n M) (hk : m_k M a = 13) (hi : vp_in i (m_l M a)) (kk : WP X cells slots (pc + 1) ls (.long (m_j M a i.toNatClampNeg) :: st) M) : WP X cells slots pc ls (.int i :: .ref a :: st) M := by
  obtain ⟨⟨p, l, e, R, s, m, args, below, meth, c⟩, Z, A, D, ty, xt, nL, L0⟩ := X
  intro L H locs lc h0 hP hS hl
  have hcell := x_ws_at (ty := ty) (xt := xt) (L := L) ha
  rw [x_cl_j hk] at hcell
  exact va_lald hX.1 hX.2.1 hX.2.2.2.2.2.2.1 hP.2.2.2.1 a 1 hcell rfl hi hd (kk L H locs lc h0 hP hS hl)
theorem wp_last {a : Nat} {i : Int32} {v : Int64} (hX : Good X own cc d C S) (hd : decode cc pc = .ok (.lastore, 1)) (ha : a < m_n M) (hk : m_k M a = 13) (hi : vp_in i (m_l M a)) (kk : WP X cells slots (pc + 1) ls st (m_setj M a i.toNatClampNeg v)) : WP X cells slots pc ls (.long v :: .int i :: .ref a :: st) M := by
  obtain ⟨⟨p, l, e, R, s, m, args, below, meth, c⟩, Z, A, D, ty, xt, nL, L0⟩ := X
  intro L H locs lc h0 hP hS hl
  have hcell := x_ws_at (ty := ty) (xt := xt) (L := L) ha
  rw [x_cl_j hk] at hcell
  refine va_last hX.1 hX.2.1 hX.2.2.2.2.2.2.1 hP.2.2.2.1 hP.2.2.2.2 hS a 1 hcell rfl hi hd (fun H1 locs1 h1 h2 h3 => ?_)
  refine kk L H1 locs1 lc h0 (hP.put (M' := m_setj M a i.toNatClampNeg v) ha rfl ?_ (fun b hb => x_cl_eq rfl rfl rfl (u2_ne _ _ _ hb) rfl) hP.2.2.1 h1 h2) h3 hl
  rw [x_cl_j (show m_k (m_setj M a i.toNatClampNeg v) a = 13 from hk)]
  show Sum.inl (ty 1, m_l M a, Sum.inr (Sum.inl (u2 (m_j M) a i.toNatClampNeg v a))) = _
  rw [u2_row]
  rfl
/-- arrays of Forms -/
theorem wp_aald {a r : Nat} {i : Int32} (hX : Good X own cc d C S) (hd : decode cc pc = .ok (.aaload, 1)) (ha : a < m_n M) (hk : m_k M a = 14) (hi : vp_in i (m_l M a)) (hr : m_r M a i.toNatClampNeg = some r) (kk : WP X cells slots (pc + 1) ls (.ref r :: st) M) : WP X cells slots pc ls (.int i :: .ref a :: st) M := by
  obtain ⟨⟨p, l, e, R, s, m, args, below, meth, c⟩, Z, A, D, ty, xt, nL, L0⟩ := X
  intro L H locs lc h0 hP hS hl
  have hcell := x_ws_at (ty := ty) (xt := xt) (L := L) ha
  rw [x_cl_r hk] at hcell
  refine va_aldq hX.1 hX.2.1 hX.2.2.2.2.2.2.1 hP.2.2.2.1 a 2 (C := "CutFromOthers$Form") hcell rfl hi hd ?_
  have e1 : va_rf ((m_r M a i.toNatClampNeg).map (x_ad xt L)) = cv xt L (.ref r) := by rw [hr]; rfl
  rw [e1]
  exact kk L H locs lc h0 hP hS hl
theorem wp_aast {a r : Nat} {i : Int32} (hX : Good X own cc d C S) (hd : decode cc pc = .ok (.aastore, 1)) (ha : a < m_n M) (hk : m_k M a = 14) (hi : vp_in i (m_l M a)) (hr : r < m_n M) (hkr : m_k M r = 1) (kk : WP X cells slots (pc + 1) ls st (m_setr M a i.toNatClampNeg (some r))) : WP X cells slots pc ls (.ref r :: .int i :: .ref a :: st) M := by
  obtain ⟨⟨p, l, e, R, s, m, args, below, meth, c⟩, Z, A, D, ty, xt, nL, L0⟩ := X
  intro L H locs lc h0 hP hS hl
  have hcell := x_ws_at (ty := ty) (xt := xt) (L := L) ha
  rw [x_cl_r hk] at hcell
  have hcv := x_ws_at (ty := ty) (xt := xt) (L := L) hr
  rw [x_cl_o hkr (by decide)] at hcv
  refine va_astq hX.1 hX.2.1 hX.2.2.2.2.2.2.1 hP.2.2.2.1 hP.2.2.2.2 hS a 2 r 1 (r := (RX1, TX1, 6)) hcell rfl hcv rfl hi hd (fun H1 locs1 h1 h2 h3 => ?_)
  refine kk L H1 locs1 lc h0 (hP.put (M' := m_setr M a i.toNatClampNeg (some r)) ha rfl ?_ (fun b hb => x_cl_eq rfl rfl rfl rfl (u2_ne _ _ _ hb)) (x_wf_setr hP.2.2.1 hr) h1 h2) h3 hl
  rw [x_cl_r (show m_k (m_setr M a i.toNatClampNeg (some r)) a = 14 from hk)]
  show Sum.inl (ty 2, m_l M a, Sum.inr (Sum.inr (Sum.inr (Sum.inr (fun j => (u2 (m_r M) a i.toNatClampNeg (some r) a j).map (x_ad xt L)))))) = _
  congr 7
  funext j
  rw [u2_row]
  unfold va_up
  by_cases hj : j = i.toNatClampNeg
  · simp [hj]
  · simp [hj]
end HEAP
