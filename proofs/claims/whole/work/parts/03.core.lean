/-! THE MEMORY'S PICTURE: how many cells, the kind of each (0 to 11: an object of that class of vwCl; 12 ints, 13 longs, 14 Forms), its length, its ints, its longs, its references. An address of the picture is the number of the cell in the order of their making; from 1000 on: what was there before (strings, tables). -/
abbrev mM : Type := Nat × (Nat → Nat) × (Nat → Nat) × (Nat → Nat → Int32) × (Nat → Nat → Int64) × (Nat → Nat → Option Nat)
abbrev m_n (M : mM) : Nat := M.1
abbrev m_k (M : mM) : Nat → Nat := M.2.1
abbrev m_l (M : mM) : Nat → Nat := M.2.2.1
abbrev m_i (M : mM) : Nat → Nat → Int32 := M.2.2.2.1
abbrev m_j (M : mM) : Nat → Nat → Int64 := M.2.2.2.2.1
abbrev m_r (M : mM) : Nat → Nat → Option Nat := M.2.2.2.2.2
/-- one place of one cell becomes v -/
def u2 {α : Type} (f : Nat → Nat → α) (a k : Nat) (v : α) : Nat → Nat → α := fun b j => if b = a then (if j = k then v else f b j) else f b j
/-- a whole cell becomes g -/
def u1 {α : Type} (f : Nat → Nat → α) (a : Nat) (g : Nat → α) : Nat → Nat → α := fun b => if b = a then g else f b
theorem u2_row {α : Type} (f : Nat → Nat → α) (a k : Nat) (v : α) : u2 f a k v a = fun j => if j = k then v else f a j := by funext j; simp [u2]
theorem u2_ne {α : Type} (f : Nat → Nat → α) {a b : Nat} (k : Nat) (v : α) (h : b ≠ a) : u2 f a k v b = f b := by funext j; simp [u2, h]
theorem u1_row {α : Type} (f : Nat → Nat → α) (a : Nat) (g : Nat → α) : u1 f a g a = g := by simp [u1]
theorem u1_ne {α : Type} (f : Nat → Nat → α) {a b : Nat} (g : Nat → α) (h : b ≠ a) : u1 f a g b = f b := by simp [u1, h]
abbrev m_seti (M : mM) (a k : Nat) (v : Int32) : mM := (M.1, M.2.1, M.2.2.1, u2 M.2.2.2.1 a k v, M.2.2.2.2.1, M.2.2.2.2.2)
abbrev m_setj (M : mM) (a k : Nat) (v : Int64) : mM := (M.1, M.2.1, M.2.2.1, M.2.2.2.1, u2 M.2.2.2.2.1 a k v, M.2.2.2.2.2)
abbrev m_setr (M : mM) (a k : Nat) (v : Option Nat) : mM := (M.1, M.2.1, M.2.2.1, M.2.2.2.1, M.2.2.2.2.1, u2 M.2.2.2.2.2 a k v)
abbrev m_rowi (M : mM) (a : Nat) (g : Nat → Int32) : mM := (M.1, M.2.1, M.2.2.1, u1 M.2.2.2.1 a g, M.2.2.2.2.1, M.2.2.2.2.2)
abbrev m_rowj (M : mM) (a : Nat) (g : Nat → Int64) : mM := (M.1, M.2.1, M.2.2.1, M.2.2.2.1, u1 M.2.2.2.2.1 a g, M.2.2.2.2.2)
/-- a new cell of a kind and a length, all 0, null -/
abbrev m_new (M : mM) (k n : Nat) : mM := (M.1 + 1, (fun b => if b = M.1 then k else M.2.1 b), (fun b => if b = M.1 then n else M.2.2.1 b), u1 M.2.2.2.1 M.1 (fun _ => 0), u1 M.2.2.2.2.1 M.1 (fun _ => 0), u1 M.2.2.2.2.2 M.1 (fun _ => none))
/-- the fields of an object: 0 a reference, 1 an int, 2 a boolean -/
def x_fs (ts : List Nat) (fi : Nat → Int32) (fr : Nat → Value) : List Value := (List.range ts.length).map (fun j => if ts.getD j 0 = 0 then fr j else .int (fi j))
theorem x_fs_at {ts : List Nat} {fi : Nat → Int32} {fr : Nat → Value} {k t : Nat} (h : ts[k]? = some t) : (x_fs ts fi fr)[k]? = some (if t = 0 then fr k else .int (fi k)) := by
  obtain ⟨hl, rfl⟩ := List.getElem?_eq_some_iff.mp h
  simp [x_fs, hl]
theorem x_fs_len {ts : List Nat} {fi : Nat → Int32} {fr : Nat → Value} : (x_fs ts fi fr).length = ts.length := by simp [x_fs]
theorem x_fs_seti {ts : List Nat} {fi : Nat → Int32} {fr : Nat → Value} {k t : Nat} {v : Int32} (h : ts[k]? = some t) (ht : t ≠ 0) : (x_fs ts fi fr).set k (.int v) = x_fs ts (fun j => if j = k then v else fi j) fr := by
  have hl := (List.getElem?_eq_some_iff.mp h).1
  apply List.ext_getElem?
  intro j
  by_cases hj : j = k
  · subst hj
    rw [List.getElem?_set_self (by rw [x_fs_len]; exact hl), x_fs_at h, if_neg ht, if_pos rfl]
  · rw [List.getElem?_set_ne (Ne.symm hj)]
    simp only [x_fs, List.getElem?_map]
    cases hr : (List.range ts.length)[j]? with
    | none => rfl
    | some q =>
      have : q = j := by
        obtain ⟨h1, h2⟩ := List.getElem?_eq_some_iff.mp hr
        simpa using h2.symm
      subst this
      simp [hj]
theorem x_fs_setr {ts : List Nat} {fi : Nat → Int32} {fr fr2 : Nat → Value} {k : Nat} (h : ts[k]? = some 0) (h2 : ∀ j, j ≠ k → fr2 j = fr j) : (x_fs ts fi fr).set k (fr2 k) = x_fs ts fi fr2 := by
  have hl := (List.getElem?_eq_some_iff.mp h).1
  apply List.ext_getElem?
  intro j
  by_cases hj : j = k
  · subst hj
    rw [List.getElem?_set_self (by rw [x_fs_len]; exact hl), x_fs_at h, if_pos rfl]
  · rw [List.getElem?_set_ne (Ne.symm hj)]
    simp only [x_fs, List.getElem?_map]
    cases hr : (List.range ts.length)[j]? with
    | none => rfl
    | some q =>
      have : q = j := by
        obtain ⟨h1, h2⟩ := List.getElem?_eq_some_iff.mp hr
        simpa using h2.symm
      subst this
      simp [h2 q hj]
def x_ad (xt : Nat → Nat) (L : List Nat) (k : Nat) : Nat := if k < 1000 then L.getD k 0 else xt k
def cv (xt : Nat → Nat) (L : List Nat) : Value → Value
  | .ref k => .ref (x_ad xt L k)
  | v => v
theorem cv_cat (xt : Nat → Nat) (L : List Nat) (v : Value) : (cv xt L v).category = v.category := by cases v <;> rfl
def x_cl (ty : Nat → ClassId) (ad : Nat → Nat) (M : mM) (a : Nat) : va_E :=
  if m_k M a = 12 then .inl (ty 0, m_l M a, .inl (m_i M a))
  else if m_k M a = 13 then .inl (ty 1, m_l M a, .inr (.inl (m_j M a)))
  else if m_k M a = 14 then .inl (ty 2, m_l M a, .inr (.inr (.inr (.inr (fun j => (m_r M a j).map ad)))))
  else .inr (m_k M a, x_fs (x_ft.getD (m_k M a) []) (m_i M a) (fun j => va_rf ((m_r M a j).map ad)))
def x_ws (ty : Nat → ClassId) (xt : Nat → Nat) (L : List Nat) (M : mM) : va_W := (List.range (m_n M)).map (fun k => (x_ad xt L k, x_cl ty (x_ad xt L) M k))
theorem x_ws_at {ty : Nat → ClassId} {xt : Nat → Nat} {L : List Nat} {M : mM} {a : Nat} (h : a < m_n M) : (x_ws ty xt L M)[a]? = some (x_ad xt L a, x_cl ty (x_ad xt L) M a) := by
  simp [x_ws, h]
theorem x_ws_set {ty : Nat → ClassId} {xt : Nat → Nat} {L : List Nat} {M M' : mM} {a : Nat} {e : va_E} (h : a < m_n M) (hn : m_n M' = m_n M) (he : x_cl ty (x_ad xt L) M' a = e) (hr : ∀ b, b ≠ a → x_cl ty (x_ad xt L) M' b = x_cl ty (x_ad xt L) M b) : (x_ws ty xt L M).set a (x_ad xt L a, e) = x_ws ty xt L M' := by
  apply List.ext_getElem?
  intro j
  have hlen : (x_ws ty xt L M).length = m_n M := by simp [x_ws]
  by_cases hj : j = a
  · subst hj
    rw [List.getElem?_set_self (by rw [hlen]; exact h), x_ws_at (by rw [hn]; exact h), he]
  · rw [List.getElem?_set_ne (Ne.symm hj)]
    by_cases hl : j < m_n M
    · rw [x_ws_at hl, x_ws_at (by rw [hn]; exact hl), hr j hj]
    · rw [List.getElem?_eq_none (by rw [hlen]; omega), List.getElem?_eq_none (by simp only [x_ws, List.length_map, List.length_range]; omega)]
/-- the picture holds of the heap H: the cells' addresses are L's -/
def PR (D : va_G) (ty : Nat → ClassId) (xt : Nat → Nat) (A : Nat → Prop) (L : List Nat) (M : mM) (H : Heap) : Prop :=
  L.length = m_n M ∧ m_n M ≤ 1000 ∧ (∀ a j r, a < m_n M → m_r M a j = some r → r < m_n M) ∧ va_P D vwCl (x_ws ty xt L M) H ∧ va_D A (x_ws ty xt L M)
/-- the places of a frame -/
def LR (xt : Nat → Nat) (L : List Nat) (nL : Nat) (lc : Array Slot) (ls : List (Option Value)) : Prop :=
  lc.size = nL ∧ lv_wf lc ∧ ∀ (i : Nat) (v : Value), ls[i]? = some (some v) → lc[i]? = some (Slot.val (cv xt L v))
def x_lv (xt : Nat → Nat) (L : List Nat) (ls : List (Option Value)) : List (Nat × Value) := (List.range ls.length).filterMap (fun i => match ls[i]? with
  | some (some v) => some (i, cv xt L v)
  | _ => none)
theorem x_lv_mem {xt : Nat → Nat} {L : List Nat} {ls : List (Option Value)} {q : Nat × Value} : q ∈ x_lv xt L ls ↔ ∃ i v, ls[i]? = some (some v) ∧ q = (i, cv xt L v) := by
  unfold x_lv
  rw [List.mem_filterMap]
  constructor
  · rintro ⟨i, hi, h⟩
    split at h
    · next v hv =>
      cases h
      exact ⟨i, v, hv, rfl⟩
    · cases h
  · rintro ⟨i, v, h, rfl⟩
    refine ⟨i, List.mem_range.mpr (List.getElem?_eq_some_iff.mp h).1, ?_⟩
    rw [h]
theorem LR.has {xt : Nat → Nat} {L : List Nat} {nL : Nat} {lc : Array Slot} {ls : List (Option Value)} (h : LR xt L nL lc ls) : lv_has lc nL (x_lv xt L ls) := by
  refine ⟨h.1, h.2.1, fun q hq => ?_⟩
  obtain ⟨i, v, h1, rfl⟩ := x_lv_mem.mp hq
  exact h.2.2 i v h1
/-- nothing of two words ends at this place -/
def x_ok (ls : List (Option Value)) : Nat → Bool
  | 0 => true
  | i + 1 => match ls[i]? with
    | some (some (.long _)) => false
    | some (some (.double _)) => false
    | _ => true
theorem x_ok_cat {ls : List (Option Value)} {i : Nat} {v : Value} (h : x_ok ls (i + 1) = true) (hv : ls[i]? = some (some v)) : v.category = 1 := by
  simp only [x_ok, hv] at h
  cases v <;> first | rfl | (simp at h)
theorem LR.st1 {xt : Nat → Nat} {L : List Nat} {nL i : Nat} {lc : Array Slot} {ls : List (Option Value)} {v : Value} (hok : x_ok ls i = true) (h : lv_has lc nL ((i, cv xt L v) :: (x_lv xt L ls).filter (fun q => !(q.1 == i) && !(q.1 + 1 == i && q.2.category == 2)))) : LR xt L nL lc (ls.set i (some v)) := by
  refine ⟨h.1, h.2.1, fun j w hw => ?_⟩
  by_cases hj : j = i
  · subst hj
    have hl : j < ls.length := by
      have := (List.getElem?_eq_some_iff.mp hw).1
      simpa using this
    rw [List.getElem?_set_self hl] at hw
    cases hw
    exact h.2.2 (j, cv xt L v) List.mem_cons_self
  · rw [List.getElem?_set_ne (Ne.symm hj)] at hw
    refine h.2.2 (j, cv xt L w) (List.mem_cons_of_mem _ (List.mem_filter.mpr ⟨x_lv_mem.mpr ⟨j, w, hw, rfl⟩, ?_⟩))
    simp only [Bool.and_eq_true, Bool.not_eq_true', beq_eq_false_iff_ne, Bool.and_eq_false_iff]
    refine ⟨hj, ?_⟩
    by_cases h1 : j + 1 = i
    · subst h1
      right
      rw [cv_cat, x_ok_cat hok hw]
      decide
    · left
      exact h1
theorem LR.st2 {xt : Nat → Nat} {L : List Nat} {nL i : Nat} {lc : Array Slot} {ls : List (Option Value)} {v : Value} (hok : x_ok ls i = true) (h : lv_has lc nL ((i, cv xt L v) :: (x_lv xt L ls).filter (fun q => !(q.1 == i) && (!(q.1 == i + 1) && !(q.1 + 1 == i && q.2.category == 2))))) : LR xt L nL lc ((ls.set (i + 1) none).set i (some v)) := by
  refine ⟨h.1, h.2.1, fun j w hw => ?_⟩
  by_cases hj : j = i
  · subst hj
    have hl : j < (ls.set (j + 1) none).length := by
      have := (List.getElem?_eq_some_iff.mp hw).1
      simpa using this
    rw [List.getElem?_set_self hl] at hw
    cases hw
    exact h.2.2 (j, cv xt L v) List.mem_cons_self
  · rw [List.getElem?_set_ne (Ne.symm hj)] at hw
    by_cases h2 : j = i + 1
    · subst h2
      exfalso
      have hl : i + 1 < ls.length := by
        have := (List.getElem?_eq_some_iff.mp hw).1
        simpa using this
      rw [List.getElem?_set_self hl] at hw
      cases hw
    · rw [List.getElem?_set_ne (Ne.symm h2)] at hw
      refine h.2.2 (j, cv xt L w) (List.mem_cons_of_mem _ (List.mem_filter.mpr ⟨x_lv_mem.mpr ⟨j, w, hw, rfl⟩, ?_⟩))
      simp only [Bool.and_eq_true, Bool.not_eq_true', beq_eq_false_iff_ne, Bool.and_eq_false_iff]
      refine ⟨hj, h2, ?_⟩
      by_cases h1 : j + 1 = i
      · subst h1
        right
        rw [cv_cat, x_ok_cat hok hw]
        decide
      · left
        exact h1
