/-! THE STEADY STATE: all cells are made; only ints, longs and two references (which of Told's rows is which) change -/
def kdL : List Nat := [10, 5, 14, 12, 12, 12, 1, 12, 12, 12, 1, 12, 12, 12, 1, 12, 12, 12, 1, 12, 12, 12, 1, 12, 12, 12, 1, 12, 12, 12, 1, 12, 12, 12, 1, 12, 12, 12, 1, 12, 12, 12, 1, 12, 12, 12, 7, 12, 12, 3, 12, 12, 12, 2, 12, 12, 12, 12, 8, 12, 12, 9, 12, 12, 12, 12, 12, 12, 0, 12, 6, 12, 12, 4, 12, 12, 13, 1, 12, 12, 12, 11, 12, 12, 12, 12, 12, 12, 12, 12, 12, 12, 12, 12, 12, 12, 12, 12, 12, 12, 12, 12, 12, 12, 12, 12, 12, 12, 13, 12, 12, 12, 12, 12, 12]
def lnL : List Nat := [0, 0, 10, 30, 10, 10, 0, 4, 100, 100, 0, 4, 100, 100, 0, 4, 100, 100, 0, 4, 100, 100, 0, 4, 100, 100, 0, 4, 100, 100, 0, 4, 100, 100, 0, 4, 100, 100, 0, 4, 100, 100, 0, 4, 100, 100, 0, 120, 256, 0, 256, 6, 64, 0, 10, 100, 100, 10, 0, 10, 10, 0, 6, 6, 4, 6, 6, 4, 0, 160, 0, 50, 24, 0, 6, 6, 360, 0, 4, 100, 100, 0, 10, 10, 10, 10, 6, 6, 120, 60, 60, 60, 200, 61, 61, 61, 200, 200, 6, 3, 6, 6, 3, 160, 50, 24, 6, 6, 360, 11, 11, 110, 110, 11, 11]
def rfL : List (List (Option Nat)) := [[some 1, some 46, some 49, some 53, some 58, some 61, some 68, some 70, some 73, some 77], [some 2, some 3, some 4, some 5], [some 6, some 10, some 14, some 18, some 22, some 26, some 30, some 34, some 38, some 42], [], [], [], [some 7, some 8, some 9], [], [], [], [some 11, some 12, some 13], [], [], [], [some 15, some 16, some 17], [], [], [], [some 19, some 20, some 21], [], [], [], [some 23, some 24, some 25], [], [], [], [some 27, some 28, some 29], [], [], [], [some 31, some 32, some 33], [], [], [], [some 35, some 36, some 37], [], [], [], [some 39, some 40, some 41], [], [], [], [some 43, some 44, some 45], [], [], [], [some 47, some 48], [], [], [some 50, some 51, some 52], [], [], [], [some 1, some 49, some 54, some 55, some 56, some 57], [], [], [], [], [some 1, some 59, some 60], [], [], [some 62, some 63, some 64, some 65, some 66, some 67], [], [], [], [], [], [], [some 69], [], [some 71, some 72], [], [], [some 74, some 75, some 76], [], [], [], [some 78, some 79, some 80], [], [], [], [none, some 82, some 83, some 84, some 85, none, some 86, some 87, none, none, some 88, none, none, some 89, some 90, some 91, some 92, none, none, none, none, some 93, some 94, some 95, some 96, some 97, some 98, some 99, none, none, none, some 100, some 101, some 102, none, none, some 103, none, some 104, none, some 105, some 106, some 107, some 108, some 109, some 110, some 111, some 112, some 113, some 114], [], [], [], [], [], [], [], [], [], [], [], [], [], [], [], [], [], [], [], [], [], [], [], [], [], [], [], [], [], [], [], [], []]
def kd0 (a : Nat) : Nat := kdL.getD a 99
def ln0 (a : Nat) : Nat := lnL.getD a 0
def rf0 (sw : Bool) (a k : Nat) : Option Nat := if a = 58 ∧ k = 1 then some (if sw then 60 else 59) else if a = 58 ∧ k = 2 then some (if sw then 59 else 60) else (rfL.getD a []).getD k none
/-- the memory: which of Told's rows is which, the ints, the longs -/
def S (sw : Bool) (f : Nat → Nat → Int32) (g : Nat → Nat → Int64) : mM := (115, kd0, ln0, f, g, rf0 sw)
theorem kd0_lt {a c : Nat} (h : kd0 a = c) (hc : c < 99) : a < 115 := by
  by_cases ha : a < 115
  · exact ha
  · exfalso
    unfold kd0 at h
    rw [List.getD_eq_getElem?_getD, List.getElem?_eq_none (show kdL.length ≤ a from Nat.le_of_not_lt ha)] at h
    simp at h
    omega
theorem rf0_lt {sw : Bool} {a k r : Nat} (h : rf0 sw a k = some r) : r < 115 := by
  have hall : ∀ q ∈ rfL, ∀ v ∈ q, ∀ r ∈ v, r < 115 := by decide +kernel
  unfold rf0 at h
  split at h
  · cases sw <;> (simp at h; omega)
  · split at h
    · cases sw <;> (simp at h; omega)
    · rw [List.getD_eq_getElem?_getD] at h
      cases hr : (rfL.getD a [])[k]? with
      | none => rw [hr] at h; cases h
      | some v =>
        rw [hr] at h
        have h : v = some r := h
        have hm := List.mem_of_getElem? hr
        rw [List.getD_eq_getElem?_getD] at hm
        cases hq : rfL[a]? with
        | none => rw [hq] at hm; simp at hm
        | some q =>
          rw [hq] at hm
          exact hall q (List.mem_of_getElem? hq) v hm r (by rw [h]; rfl)
def QR (v : Option Value) (M2 : mM) : Option Value → mM → Prop := fun r M' => r = v ∧ M' = M2
def QS (P : Option Value → Bool → (Nat → Nat → Int32) → (Nat → Nat → Int64) → Prop) : Option Value → mM → Prop := fun r M' => ∃ sw f g, M' = S sw f g ∧ P r sw f g
section STEADY
variable {X : cxT} {own : String} {cc : ByteArray} {d C Sl pc : Nat} {ls : List (Option Value)} {st : List Value} {sw : Bool} {f : Nat → Nat → Int32} {g : Nat → Nat → Int64}
theorem FL.lt {own : String} {idx ci k t : Nat} (h : FL own idx ci k t) : ci < 12 := by
  obtain ⟨_, _, _, _, h, _⟩ := h
  exact h.2.2.1
theorem FP.lt {own : String} {idx ci k t : Nat} (h : FP own idx ci k t) : ci < 12 := by
  obtain ⟨_, _, _, _, h, _⟩ := h
  exact h.2.2.1
theorem w_geti {idx ci k t a : Nat} (hX : Good X own cc d C Sl) (hf : FL own idx ci k t) (hd : decode cc pc = .ok (.getfield idx, 3)) (ht : ¬ t = 0) (hk : kd0 a = ci) (kk : WP X C Sl (pc + 3) ls (.int (f a k) :: st) (S sw f g)) : WP X C Sl pc ls (.ref a :: st) (S sw f g) :=
  wp_geti hX hf hd ht (show a < 115 from kd0_lt hk (Nat.lt_trans hf.lt (by decide))) hk kk
theorem w_getr {idx ci k a r : Nat} (hX : Good X own cc d C Sl) (hf : FL own idx ci k 0) (hd : decode cc pc = .ok (.getfield idx, 3)) (hk : kd0 a = ci) (hr : rf0 sw a k = some r) (kk : WP X C Sl (pc + 3) ls (.ref r :: st) (S sw f g)) : WP X C Sl pc ls (.ref a :: st) (S sw f g) :=
  wp_getr hX hf hd (show a < 115 from kd0_lt hk (Nat.lt_trans hf.lt (by decide))) hk hr (Nat.lt_trans (rf0_lt hr) (by decide)) kk
theorem w_puti {idx ci k a : Nat} {v : Int32} (hX : Good X own cc d C Sl) (hf : FP own idx ci k 1) (hd : decode cc pc = .ok (.putfield idx, 3)) (hk : kd0 a = ci) (kk : WP X C Sl (pc + 3) ls st (S sw (u2 f a k v) g)) : WP X C Sl pc ls (.int v :: .ref a :: st) (S sw f g) :=
  wp_puti hX hf hd (show a < 115 from kd0_lt hk (Nat.lt_trans hf.lt (by decide))) hk kk
theorem w_putz {idx ci k a : Nat} {v : Int32} (hX : Good X own cc d C Sl) (hf : FP own idx ci k 2) (hd : decode cc pc = .ok (.putfield idx, 3)) (hv : narrow .boolean (.int v) = .int v ∧ fits .boolean (.int v) = true) (hk : kd0 a = ci) (kk : WP X C Sl (pc + 3) ls st (S sw (u2 f a k v) g)) : WP X C Sl pc ls (.int v :: .ref a :: st) (S sw f g) :=
  wp_putz hX hf hd hv (show a < 115 from kd0_lt hk (Nat.lt_trans hf.lt (by decide))) hk kk
theorem x_big {a j : Nat} (h : j < ln0 a) : j < 2 ^ 31 := by
  have hall : ∀ q ∈ lnL, q ≤ 360 := by decide +kernel
  have : ln0 a ≤ 360 := by
    unfold ln0
    rw [List.getD_eq_getElem?_getD]
    cases hq : lnL[a]? with
    | none => simp
    | some q => exact hall q (List.mem_of_getElem? hq)
  omega
theorem x_len {a : Nat} : ln0 a < 2 ^ 31 := by
  have hall : ∀ q ∈ lnL, q ≤ 360 := by decide +kernel
  have : ln0 a ≤ 360 := by
    unfold ln0
    rw [List.getD_eq_getElem?_getD]
    cases hq : lnL[a]? with
    | none => simp
    | some q => exact hall q (List.mem_of_getElem? hq)
  omega
theorem w_iald {a j : Nat} {i : Int32} (hX : Good X own cc d C Sl) (hd : decode cc pc = .ok (.iaload, 1)) (hk : kd0 a = 12) (hi : i = nI j) (hj : j < ln0 a) (kk : WP X C Sl (pc + 1) ls (.int (f a j) :: st) (S sw f g)) : WP X C Sl pc ls (.int i :: .ref a :: st) (S sw f g) := by
  subst hi
  refine wp_iald hX hd (show a < 115 from kd0_lt hk (by decide)) hk (vp_in_nI hj x_len) ?_
  rw [nI_clamp (x_big hj)]
  exact kk
theorem w_iast {a j : Nat} {i v : Int32} (hX : Good X own cc d C Sl) (hd : decode cc pc = .ok (.iastore, 1)) (hk : kd0 a = 12) (hi : i = nI j) (hj : j < ln0 a) (kk : WP X C Sl (pc + 1) ls st (S sw (u2 f a j v) g)) : WP X C Sl pc ls (.int v :: .int i :: .ref a :: st) (S sw f g) := by
  subst hi
  refine wp_iast hX hd (show a < 115 from kd0_lt hk (by decide)) hk (vp_in_nI hj x_len) ?_
  rw [nI_clamp (x_big hj)]
  exact kk
theorem w_lald {a j : Nat} {i : Int32} (hX : Good X own cc d C Sl) (hd : decode cc pc = .ok (.laload, 1)) (hk : kd0 a = 13) (hi : i = nI j) (hj : j < ln0 a) (kk : WP X C Sl (pc + 1) ls (.long (g a j) :: st) (S sw f g)) : WP X C Sl pc ls (.int i :: .ref a :: st) (S sw f g) := by
  subst hi
  refine wp_lald hX hd (show a < 115 from kd0_lt hk (by decide)) hk (vp_in_nI hj x_len) ?_
  rw [nI_clamp (x_big hj)]
  exact kk
theorem w_last {a j : Nat} {i : Int32} {v : Int64} (hX : Good X own cc d C Sl) (hd : decode cc pc = .ok (.lastore, 1)) (hk : kd0 a = 13) (hi : i = nI j) (hj : j < ln0 a) (kk : WP X C Sl (pc + 1) ls st (S sw f (u2 g a j v))) : WP X C Sl pc ls (.long v :: .int i :: .ref a :: st) (S sw f g) := by
  subst hi
  refine wp_last hX hd (show a < 115 from kd0_lt hk (by decide)) hk (vp_in_nI hj x_len) ?_
  rw [nI_clamp (x_big hj)]
  exact kk
theorem w_aald {a j r : Nat} {i : Int32} (hX : Good X own cc d C Sl) (hd : decode cc pc = .ok (.aaload, 1)) (hk : kd0 a = 14) (hi : i = nI j) (hj : j < ln0 a) (hr : rf0 sw a j = some r) (kk : WP X C Sl (pc + 1) ls (.ref r :: st) (S sw f g)) : WP X C Sl pc ls (.int i :: .ref a :: st) (S sw f g) := by
  subst hi
  refine wp_aald (r := r) hX hd (show a < 115 from kd0_lt hk (by decide)) hk (vp_in_nI hj x_len) ?_ kk
  rw [nI_clamp (x_big hj)]
  exact hr
theorem w_copyi {idx a b sp dp n : Nat} {i j k : Int32} (hX : Good X own cc (d + 1) C Sl) (hw : Cond.methodLink own idx arraycopyName ∈ x_tbl) (hd : decode cc pc = .ok (.invokestatic idx, 3)) (hst : (st.map fun v => v.category).sum ≤ 8) (hka : kd0 a = 12) (hkb : kd0 b = 12) (hi : i = nI sp) (hj : j = nI dp) (hk : k = nI n) (h1 : sp + n ≤ ln0 a) (h2 : dp + n ≤ ln0 b) (kk : WP X C Sl (pc + 3) ls st (S sw (u1 f b (va_cpy (f a) (f b) sp dp n)) g)) : WP X C Sl pc ls (.int k :: .int j :: .ref b :: .int i :: .ref a :: st) (S sw f g) := by
  subst hi hj hk
  have ha := x_len (a := a)
  have hb := x_len (a := b)
  have e1 := nI_clamp (n := sp) (by omega)
  have e2 := nI_clamp (n := dp) (by omega)
  have e3 := nI_clamp (n := n) (by omega)
  refine wp_copyi hX hw kna_copy kst_copy kin_System hd hst (show a < 115 from kd0_lt hka (by decide)) hka (show b < 115 from kd0_lt hkb (by decide)) hkb (nI_pos (by omega)) (nI_pos (by omega)) (nI_pos (by omega)) (by rw [e1, e3]; exact h1) (by rw [e2, e3]; exact h2) ?_
  rw [e1, e2, e3]
  exact kk
theorem w_copyj {idx a b sp dp n : Nat} {i j k : Int32} (hX : Good X own cc (d + 1) C Sl) (hw : Cond.methodLink own idx arraycopyName ∈ x_tbl) (hd : decode cc pc = .ok (.invokestatic idx, 3)) (hst : (st.map fun v => v.category).sum ≤ 8) (hka : kd0 a = 13) (hkb : kd0 b = 13) (hi : i = nI sp) (hj : j = nI dp) (hk : k = nI n) (h1 : sp + n ≤ ln0 a) (h2 : dp + n ≤ ln0 b) (kk : WP X C Sl (pc + 3) ls st (S sw f (u1 g b (va_cpy (g a) (g b) sp dp n)))) : WP X C Sl pc ls (.int k :: .int j :: .ref b :: .int i :: .ref a :: st) (S sw f g) := by
  subst hi hj hk
  have ha := x_len (a := a)
  have hb := x_len (a := b)
  have e1 := nI_clamp (n := sp) (by omega)
  have e2 := nI_clamp (n := dp) (by omega)
  have e3 := nI_clamp (n := n) (by omega)
  refine wp_copyj hX hw kna_copy kst_copy kin_System hd hst (show a < 115 from kd0_lt hka (by decide)) hka (show b < 115 from kd0_lt hkb (by decide)) hkb (nI_pos (by omega)) (nI_pos (by omega)) (nI_pos (by omega)) (by rw [e1, e3]; exact h1) (by rw [e2, e3]; exact h2) ?_
  rw [e1, e2, e3]
  exact kk
theorem w_max {idx : Nat} {x y : Int32} {M : mM} (hX : Good X own cc (d + 1) C Sl) (hw : Cond.methodLink own idx Lib.Math.max.name ∈ x_tbl) (hd : decode cc pc = .ok (.invokestatic idx, 3)) (hst : (st.map fun v => v.category).sum ≤ 8) (kk : WP X C Sl (pc + 3) ls (.int (if x < y then y else x) :: st) M) : WP X C Sl pc ls (.int y :: .int x :: st) M :=
  wp_max hX hw kst_max kin_Math kcd_max hd hst (Nat.le_refl _) (Nat.le_refl _) kk
theorem w_min {idx : Nat} {x y : Int32} {M : mM} (hX : Good X own cc (d + 1) C Sl) (hw : Cond.methodLink own idx Lib.Math.min.name ∈ x_tbl) (hd : decode cc pc = .ok (.invokestatic idx, 3)) (hst : (st.map fun v => v.category).sum ≤ 8) (kk : WP X C Sl (pc + 3) ls (.int (if y < x then y else x) :: st) M) : WP X C Sl pc ls (.int y :: .int x :: st) M :=
  wp_min hX hw kst_min kin_Math kcd_min hd hst (Nat.le_refl _) (Nat.le_refl _) kk
theorem w_abs {idx : Nat} {x : Int32} {M : mM} (hX : Good X own cc (d + 1) C Sl) (hw : Cond.methodLink own idx Lib.Math.abs.name ∈ x_tbl) (hd : decode cc pc = .ok (.invokestatic idx, 3)) (hst : (st.map fun v => v.category).sum ≤ 8) (kk : WP X C Sl (pc + 3) ls (.int (if 0 ≤ x then x else 0 - x) :: st) M) : WP X C Sl pc ls (.int x :: st) M :=
  wp_abs hX hw kst_abs kin_Math kcd_abs hd hst (Nat.le_refl _) (Nat.le_refl _) kk
/-- calls whose end is known -/
theorem w_callV {i : mI} {n idx b ci : Nat} {As : List Value} {v : Option Value} {sw2 : Bool} {f2 : Nat → Nat → Int32} {g2 : Nat → Nat → Int64} (hv : IV own idx i n ci) (hX : Good X own cc (d + 1) C Sl) (hd : decode cc pc = .ok (.invokevirtual idx, 3)) (hk : kd0 b = ci) (hn : As.length = n) (hst : (st.map fun v => v.category).sum ≤ 8) (hN : x_nl X = ls.length) (hct : CT d 0 0 i (.ref b :: As) (S sw f g) (QR v (S sw2 f2 g2))) (kk : WP X C Sl (pc + 3) ls (v.toList ++ st) (S sw2 f2 g2)) : WP X C Sl pc ls (As.reverse ++ .ref b :: st) (S sw f g) := by
  obtain ⟨h1, h2, h3, h4, ⟨T, N, h5⟩, h6⟩ := hv
  refine wp_invV' hX h1 h2 h3 h4 h5 rfl h6 hd (show b < 115 from kd0_lt hk (Nat.lt_trans h6 (by decide))) hk hn hst (Nat.le_refl _) (Nat.le_refl _) hN hct ?_ ?_
  · rintro M' ⟨r, -, rfl⟩
    exact Or.inl rfl
  · rintro r M' ⟨rfl, rfl⟩
    exact kk
theorem w_callS {i : mI} {n idx : Nat} {As : List Value} {v : Option Value} {sw2 : Bool} {f2 : Nat → Nat → Int32} {g2 : Nat → Nat → Int64} (hv : IS own idx i n) (hX : Good X own cc (d + 1) C Sl) (hd : decode cc pc = .ok (.invokestatic idx, 3)) (hn : As.length = n) (hst : (st.map fun v => v.category).sum ≤ 8) (hct : CT d 0 0 i As (S sw f g) (QR v (S sw2 f2 g2))) (kk : WP X C Sl (pc + 3) ls (v.toList ++ st) (S sw2 f2 g2)) : WP X C Sl pc ls (As.reverse ++ st) (S sw f g) := by
  obtain ⟨h1, h2, h3⟩ := hv
  refine wp_invS' hX h1 h2 h3 hd hn hst (Nat.le_refl _) (Nat.le_refl _) hct ?_ ?_
  · rintro M' ⟨r, -, rfl⟩
    exact Or.inl rfl
  · rintro r M' ⟨rfl, rfl⟩
    exact kk
/-- calls of whose end something is known -/
theorem w_callVQ {i : mI} {n idx b ci : Nat} {As : List Value} {P : Option Value → Bool → (Nat → Nat → Int32) → (Nat → Nat → Int64) → Prop} (hv : IV own idx i n ci) (hX : Good X own cc (d + 1) C Sl) (hd : decode cc pc = .ok (.invokevirtual idx, 3)) (hk : kd0 b = ci) (hn : As.length = n) (hst : (st.map fun v => v.category).sum ≤ 8) (hN : x_nl X = ls.length) (hct : CT d 0 0 i (.ref b :: As) (S sw f g) (QS P)) (kk : ∀ v sw2 f2 g2, P v sw2 f2 g2 → WP X C Sl (pc + 3) ls (v.toList ++ st) (S sw2 f2 g2)) : WP X C Sl pc ls (As.reverse ++ .ref b :: st) (S sw f g) := by
  obtain ⟨h1, h2, h3, h4, ⟨T, N, h5⟩, h6⟩ := hv
  refine wp_invV' hX h1 h2 h3 h4 h5 rfl h6 hd (show b < 115 from kd0_lt hk (Nat.lt_trans h6 (by decide))) hk hn hst (Nat.le_refl _) (Nat.le_refl _) hN hct ?_ ?_
  · rintro M' ⟨r, sw2, f2, g2, rfl, -⟩
    exact Or.inl rfl
  · rintro r M' ⟨sw2, f2, g2, rfl, h⟩
    exact kk r sw2 f2 g2 h
theorem w_callSQ {i : mI} {n idx : Nat} {As : List Value} {P : Option Value → Bool → (Nat → Nat → Int32) → (Nat → Nat → Int64) → Prop} (hv : IS own idx i n) (hX : Good X own cc (d + 1) C Sl) (hd : decode cc pc = .ok (.invokestatic idx, 3)) (hn : As.length = n) (hst : (st.map fun v => v.category).sum ≤ 8) (hct : CT d 0 0 i As (S sw f g) (QS P)) (kk : ∀ v sw2 f2 g2, P v sw2 f2 g2 → WP X C Sl (pc + 3) ls (v.toList ++ st) (S sw2 f2 g2)) : WP X C Sl pc ls (As.reverse ++ st) (S sw f g) := by
  obtain ⟨h1, h2, h3⟩ := hv
  refine wp_invS' hX h1 h2 h3 hd hn hst (Nat.le_refl _) (Nat.le_refl _) hct ?_ ?_
  · rintro M' ⟨r, sw2, f2, g2, rfl, -⟩
    exact Or.inl rfl
  · rintro r M' ⟨sw2, f2, g2, rfl, h⟩
    exact kk r sw2 f2 g2 h
theorem w_callT {i : mI} {n idx b : Nat} {As : List Value} {v : Option Value} {sw2 : Bool} {f2 : Nat → Nat → Int32} {g2 : Nat → Nat → Int64} (hv : IT own idx i n) (hX : Good X own cc (d + 1) C Sl) (hb : b < 6) (hd : decode cc pc = .ok (.invokevirtual idx, 3)) (hn : As.length = n) (hst : (st.map fun v => v.category).sum ≤ 8) (hct : CT d 0 0 i (.ref (1010 + b) :: As) (S sw f g) (QR v (S sw2 f2 g2))) (kk : WP X C Sl (pc + 3) ls (v.toList ++ st) (S sw2 f2 g2)) : WP X C Sl pc ls (As.reverse ++ .ref (1010 + b) :: st) (S sw f g) := by
  obtain ⟨h1, h2, h3, h4, h5⟩ := hv
  refine wp_invT' hX h1 h2 h3 h4 h5 hb hd hn hst (Nat.le_refl _) (Nat.le_refl _) hct ?_ ?_
  · rintro M' ⟨r, -, rfl⟩
    rfl
  · rintro r M' ⟨rfl, rfl⟩
    exact kk
end STEADY
