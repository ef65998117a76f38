/-! FORM, second part -/
theorem i_inc (x : Int32) : x + Int32.ofInt 1 = x + 1 := rfl
/-- how many of the first k places are within x -/
def jcnt (p : Nat → Int32) (x : Int32) : Nat → Int32
  | 0 => 0
  | k + 1 => if p k &&& (x ^^^ (-1)) = 0 then jcnt p x k + 1 else jcnt p x k
theorem k_countWays (d : Nat) (sw : Bool) (f : Nat → Nat → Int32) (g : Nat → Nat → Int64) (a k : Nat) (x : Int32) (ha : isF a) (hp : f a 5 = nI k) (hk : k ≤ 100) : CT d 0 0 iX1_countWays [.ref a, .int x] (S sw f g) (QR (some (.int (jcnt (f (a + 2)) x k))) (S sw f g)) := by
  refine CT.of rfl (Nat.le_of_ble_eq_true rfl) (fun X hX hR hN _ => ?_)
  have hX : Good X RX1 cX1_countWays d 0 0 := hX
  have hN : x_nl X = 4 := hN
  show WP X 0 0 0 [_, _, _, _] [] _
  refine wp_iconst (v := 0) hX (dk DX1_countWays 0 rfl) (by decide) ?_
  refine wp_istore_n hX (dk DX1_countWays 1 rfl) rfl rfl hN (Nat.le_of_ble_eq_true rfl) ?_
  show WP _ _ _ 2 [_, _, _, _] [] _
  refine wp_iconst (v := 0) hX (dk DX1_countWays 2 rfl) (by decide) ?_
  refine wp_istore_n hX (dk DX1_countWays 3 rfl) rfl rfl hN (Nat.le_of_ble_eq_true rfl) ?_
  show WP _ _ _ 4 [_, _, _, _] [] _
  have loop : ∀ (n j : Nat), j + n = k → WP X 0 0 4 [some (.ref a), some (.int x), some (.int (jcnt (f (a + 2)) x j)), some (.int (nI j))] [] (S sw f g) := by
    intro n
    induction n with
    | zero =>
      intro j hj
      obtain rfl : j = k := by omega
      refine wp_iload_n hX (dk DX1_countWays 4 rfl) rfl ?_
      refine wp_aload_n hX (dk DX1_countWays 5 rfl) rfl ?_
      refine w_geti hX flX1_34 (dk DX1_countWays 6 rfl) (by decide) ha.1 ?_
      refine wp_icmp_ge (tgt := 34) hX (dk DX1_countWays 7 rfl) (by decide) (fun _ => ?_) (fun h_ => absurd ((by rw [hp]; exact nI_le (by omega) (by omega))) h_)
      refine wp_iload_n hX (dk DX1_countWays 20 rfl) rfl ?_
      exact wp_ireturn hX hR (dk DX1_countWays 21 rfl) rfl (Nat.le_refl _) (Nat.le_refl _) (⟨rfl, rfl⟩)
    | succ n ih =>
      intro j hj
      refine wp_iload_n hX (dk DX1_countWays 4 rfl) rfl ?_
      refine wp_aload_n hX (dk DX1_countWays 5 rfl) rfl ?_
      refine w_geti hX flX1_34 (dk DX1_countWays 6 rfl) (by decide) ha.1 ?_
      refine wp_icmp_ge (tgt := 34) hX (dk DX1_countWays 7 rfl) (by decide) (fun h_ => absurd h_ ((by rw [hp]; exact nI_ge (by omega) (by omega)))) (fun _ => ?_)
      refine wp_aload_n hX (dk DX1_countWays 8 rfl) rfl ?_
      refine w_getr hX flX1_15 (dk DX1_countWays 9 rfl) ha.1 (ha.2.1 sw).2.1 ?_
      refine wp_iload_n hX (dk DX1_countWays 10 rfl) rfl ?_
      refine w_iald (j := _) hX (dk DX1_countWays 11 rfl) ha.2.2.2.1 rfl (by rw [ha.2.2.2.2.2.2.1]; omega) ?_
      refine wp_iload_n hX (dk DX1_countWays 12 rfl) rfl ?_
      refine wp_iconst (v := -1) hX (dk DX1_countWays 13 rfl) (by decide) ?_
      refine wp_ixor hX (dk DX1_countWays 14 rfl) ?_
      refine wp_iand hX (dk DX1_countWays 15 rfl) ?_
      refine wp_if_ne (tgt := 28) hX (dk DX1_countWays 16 rfl) (by decide) (fun h => ?_) (fun h => ?_)
      · refine wp_iinc hX (dk DX1_countWays 18 rfl) rfl (nI_inc _) rfl hN ?_
        show WP _ _ _ 31 [_, _, _, _] [] _
        refine wp_goto (tgt := 4) hX (dk DX1_countWays 19 rfl) (by decide) ?_
        -- to 4
        have := ih (j + 1) (by omega)
        rw [jcnt, if_neg h] at this
        exact this
      · refine wp_iinc hX (dk DX1_countWays 17 rfl) rfl (i_inc _) rfl hN ?_
        show WP _ _ _ 28 [_, _, _, _] [] _
        refine wp_iinc hX (dk DX1_countWays 18 rfl) rfl (nI_inc _) rfl hN ?_
        show WP _ _ _ 31 [_, _, _, _] [] _
        refine wp_goto (tgt := 4) hX (dk DX1_countWays 19 rfl) (by decide) ?_
        -- to 4
        have := ih (j + 1) (by omega)
        rw [jcnt, if_pos h] at this
        exact this
  exact loop k 0 (by omega)
theorem k_wayAt (d : Nat) (sw : Bool) (f : Nat → Nat → Int32) (g : Nat → Nat → Int64) (a k j : Nat) (ha : isF a) (hp : f a 5 = nI k) (hk : k ≤ 100) (hj : j < k) : CT d 0 0 iX1_wayAt [.ref a, .int (nI j)] (S sw f g) (QR (some (.int (f (a + 3) j))) (S sw f g)) := by
  refine CT.of rfl (Nat.le_of_ble_eq_true rfl) (fun X hX hR hN _ => ?_)
  have hX : Good X RX1 cX1_wayAt d 0 0 := hX
  have hN : x_nl X = 2 := hN
  show WP X 0 0 0 [_, _] [] _
  refine wp_iload_n hX (dk DX1_wayAt 0 rfl) rfl ?_
  refine wp_if_lt (tgt := 21) hX (dk DX1_wayAt 1 rfl) (by decide) (fun h_ => absurd h_ ((nI_pos (by omega)))) (fun _ => ?_)
  refine wp_iload_n hX (dk DX1_wayAt 2 rfl) rfl ?_
  refine wp_aload_n hX (dk DX1_wayAt 3 rfl) rfl ?_
  refine w_geti hX flX1_34 (dk DX1_wayAt 4 rfl) (by decide) ha.1 ?_
  refine wp_icmp_ge (tgt := 21) hX (dk DX1_wayAt 5 rfl) (by decide) (fun h_ => absurd h_ ((by rw [hp]; exact nI_ge hj (by omega)))) (fun _ => ?_)
  refine wp_aload_n hX (dk DX1_wayAt 6 rfl) rfl ?_
  refine w_getr hX flX1_18 (dk DX1_wayAt 7 rfl) ha.1 (ha.2.1 sw).2.2 ?_
  refine wp_iload_n hX (dk DX1_wayAt 8 rfl) rfl ?_
  refine w_iald (j := _) hX (dk DX1_wayAt 9 rfl) ha.2.2.2.2.1 rfl (by rw [ha.2.2.2.2.2.2.2]; omega) ?_
  refine wp_goto (tgt := 23) hX (dk DX1_wayAt 10 rfl) (by decide) ?_
  -- to 23
  exact wp_ireturn hX hR (dk DX1_wayAt 12 rfl) rfl (Nat.le_refl _) (Nat.le_refl _) (⟨rfl, rfl⟩)
theorem k_shapeAt (d : Nat) (sw : Bool) (f : Nat → Nat → Int32) (g : Nat → Nat → Int64) (a k j : Nat) (ha : isF a) (hp : f a 5 = nI k) (hk : k ≤ 100) (hj : j < k) : CT d 0 0 iX1_shapeAt [.ref a, .int (nI j)] (S sw f g) (QR (some (.int (f (a + 2) j))) (S sw f g)) := by
  refine CT.of rfl (Nat.le_of_ble_eq_true rfl) (fun X hX hR hN _ => ?_)
  have hX : Good X RX1 cX1_shapeAt d 0 0 := hX
  have hN : x_nl X = 2 := hN
  show WP X 0 0 0 [_, _] [] _
  refine wp_iload_n hX (dk DX1_shapeAt 0 rfl) rfl ?_
  refine wp_if_lt (tgt := 21) hX (dk DX1_shapeAt 1 rfl) (by decide) (fun h_ => absurd h_ ((nI_pos (by omega)))) (fun _ => ?_)
  refine wp_iload_n hX (dk DX1_shapeAt 2 rfl) rfl ?_
  refine wp_aload_n hX (dk DX1_shapeAt 3 rfl) rfl ?_
  refine w_geti hX flX1_34 (dk DX1_shapeAt 4 rfl) (by decide) ha.1 ?_
  refine wp_icmp_ge (tgt := 21) hX (dk DX1_shapeAt 5 rfl) (by decide) (fun h_ => absurd h_ ((by rw [hp]; exact nI_ge hj (by omega)))) (fun _ => ?_)
  refine wp_aload_n hX (dk DX1_shapeAt 6 rfl) rfl ?_
  refine w_getr hX flX1_15 (dk DX1_shapeAt 7 rfl) ha.1 (ha.2.1 sw).2.1 ?_
  refine wp_iload_n hX (dk DX1_shapeAt 8 rfl) rfl ?_
  refine w_iald (j := _) hX (dk DX1_shapeAt 9 rfl) ha.2.2.2.1 rfl (by rw [ha.2.2.2.2.2.2.1]; omega) ?_
  refine wp_goto (tgt := 25) hX (dk DX1_shapeAt 10 rfl) (by decide) ?_
  -- to 25
  exact wp_ireturn hX hR (dk DX1_shapeAt 13 rfl) rfl (Nat.le_refl _) (Nat.le_refl _) (⟨rfl, rfl⟩)
/-- can be cut out -/
def jcan (p : Nat → Int32) (k : Nat) (c x : Int32) : Int32 := if c < jpc x ∧ ¬ jfirst p x k 0 = -2 then 1 else 0
theorem k_canBeCutOf (d : Nat) (sw : Bool) (f : Nat → Nat → Int32) (g : Nat → Nat → Int64) (a k : Nat) (x : Int32) (ha : isF a) (hp : f a 5 = nI k) (hk : k ≤ 100) : CT (d + 1) 0 0 iX1_canBeCutOf [.ref a, .int x] (S sw f g) (QR (some (.int (jcan (f (a + 2)) k (f a 4) x))) (S sw f g)) := by
  refine CT.of rfl (Nat.le_of_ble_eq_true rfl) (fun X hX hR hN _ => ?_)
  have hX : Good X RX1 cX1_canBeCutOf (d + 1) 0 0 := hX
  have hN : x_nl X = 2 := hN
  show WP X 0 0 0 [_, _] [] _
  refine wp_aload_n hX (dk DX1_canBeCutOf 0 rfl) rfl ?_
  refine w_geti hX flX1_31 (dk DX1_canBeCutOf 1 rfl) (by decide) ha.1 ?_
  refine wp_iload_n hX (dk DX1_canBeCutOf 2 rfl) rfl ?_
  refine w_callS (As := [_]) lkX1_25 hX (dk DX1_canBeCutOf 3 rfl) rfl (by simp [Value.category]) (k_bitCount d x _) ?_
  show WP _ _ _ 8 [_, _] [_, _] _
  refine wp_icmp_ge (tgt := 25) hX (dk DX1_canBeCutOf 4 rfl) (by decide) (fun h => ?_) (fun h => ?_)
  · refine wp_iconst (v := 0) hX (dk DX1_canBeCutOf 12 rfl) (by decide) ?_
    exact wp_ireturn hX hR (dk DX1_canBeCutOf 13 rfl) rfl (Nat.le_refl _) (Nat.le_refl _) (⟨by rw [jcan, if_neg (fun q => Int32.not_lt.mpr h q.1)], rfl⟩)
  · refine wp_aload_n hX (dk DX1_canBeCutOf 5 rfl) rfl ?_
    refine wp_iload_n hX (dk DX1_canBeCutOf 6 rfl) rfl ?_
    refine w_callV (As := [_]) lkX1_47 hX (dk DX1_canBeCutOf 7 rfl) ha.1 rfl (by decide) hN (k_firstPlace d sw f g a k x ha hp hk) ?_
    show WP _ _ _ 16 [_, _] [_] _
    refine wp_bipush (v := -2) hX (dk DX1_canBeCutOf 8 rfl) (by decide) ?_
    refine wp_icmp_eq (tgt := 25) hX (dk DX1_canBeCutOf 9 rfl) (by decide) (fun h2 => ?_) (fun h2 => ?_)
    · refine wp_iconst (v := 0) hX (dk DX1_canBeCutOf 12 rfl) (by decide) ?_
      exact wp_ireturn hX hR (dk DX1_canBeCutOf 13 rfl) rfl (Nat.le_refl _) (Nat.le_refl _) (⟨by rw [jcan, if_neg (fun q => q.2 h2)], rfl⟩)
    · refine wp_iconst (v := 1) hX (dk DX1_canBeCutOf 10 rfl) (by decide) ?_
      refine wp_goto (tgt := 26) hX (dk DX1_canBeCutOf 11 rfl) (by decide) ?_
      -- to 26
      exact wp_ireturn hX hR (dk DX1_canBeCutOf 13 rfl) rfl (Nat.le_refl _) (Nat.le_refl _) (⟨by rw [jcan, if_pos ⟨Int32.not_le.mp h, h2⟩], rfl⟩)
/-- how many unlike places -/
def junl (t : Nat → Int32) (k : Int32) : Int32 := if t 1 = t 0 then k / 4 else if t 2 = t 0 then k / 2 else k
theorem k_unlikePlaces (d : Nat) (sw : Bool) (f : Nat → Nat → Int32) (g : Nat → Nat → Int64) (a : Nat) (ha : isF a) : CT d 0 0 iX1_unlikePlaces [.ref a] (S sw f g) (QR (some (.int (junl (f (a + 1)) (f a 5)))) (S sw f g)) := by
  refine CT.of rfl (Nat.le_of_ble_eq_true rfl) (fun X hX hR hN _ => ?_)
  have hX : Good X RX1 cX1_unlikePlaces d 0 0 := hX
  have hN : x_nl X = 1 := hN
  show WP X 0 0 0 [_] [] _
  refine wp_aload_n hX (dk DX1_unlikePlaces 0 rfl) rfl ?_
  refine w_getr hX flX1_11 (dk DX1_unlikePlaces 1 rfl) ha.1 (ha.2.1 sw).1 ?_
  refine wp_iconst (v := 1) hX (dk DX1_unlikePlaces 2 rfl) (by decide) ?_
  refine w_iald (j := 1) hX (dk DX1_unlikePlaces 3 rfl) ha.2.2.1 rfl (by rw [ha.2.2.2.2.2.1]; omega) ?_
  refine wp_aload_n hX (dk DX1_unlikePlaces 4 rfl) rfl ?_
  refine w_getr hX flX1_11 (dk DX1_unlikePlaces 5 rfl) ha.1 (ha.2.1 sw).1 ?_
  refine wp_iconst (v := 0) hX (dk DX1_unlikePlaces 6 rfl) (by decide) ?_
  refine w_iald (j := 0) hX (dk DX1_unlikePlaces 7 rfl) ha.2.2.1 rfl (by rw [ha.2.2.2.2.2.1]; omega) ?_
  refine wp_icmp_ne (tgt := 22) hX (dk DX1_unlikePlaces 8 rfl) (by decide) (fun h => ?_) (fun h => ?_)
  · refine wp_aload_n hX (dk DX1_unlikePlaces 14 rfl) rfl ?_
    refine w_getr hX flX1_11 (dk DX1_unlikePlaces 15 rfl) ha.1 (ha.2.1 sw).1 ?_
    refine wp_iconst (v := 2) hX (dk DX1_unlikePlaces 16 rfl) (by decide) ?_
    refine w_iald (j := 2) hX (dk DX1_unlikePlaces 17 rfl) ha.2.2.1 rfl (by rw [ha.2.2.2.2.2.1]; omega) ?_
    refine wp_aload_n hX (dk DX1_unlikePlaces 18 rfl) rfl ?_
    refine w_getr hX flX1_11 (dk DX1_unlikePlaces 19 rfl) ha.1 (ha.2.1 sw).1 ?_
    refine wp_iconst (v := 0) hX (dk DX1_unlikePlaces 20 rfl) (by decide) ?_
    refine w_iald (j := 0) hX (dk DX1_unlikePlaces 21 rfl) ha.2.2.1 rfl (by rw [ha.2.2.2.2.2.1]; omega) ?_
    refine wp_icmp_ne (tgt := 46) hX (dk DX1_unlikePlaces 22 rfl) (by decide) (fun h2 => ?_) (fun h2 => ?_)
    · refine wp_aload_n hX (dk DX1_unlikePlaces 28 rfl) rfl ?_
      refine w_geti hX flX1_34 (dk DX1_unlikePlaces 29 rfl) (by decide) ha.1 ?_
      exact wp_ireturn hX hR (dk DX1_unlikePlaces 30 rfl) rfl (Nat.le_refl _) (Nat.le_refl _) (⟨by rw [junl, if_neg h, if_neg h2], rfl⟩)
    · refine wp_aload_n hX (dk DX1_unlikePlaces 23 rfl) rfl ?_
      refine w_geti hX flX1_34 (dk DX1_unlikePlaces 24 rfl) (by decide) ha.1 ?_
      refine wp_iconst (v := 2) hX (dk DX1_unlikePlaces 25 rfl) (by decide) ?_
      refine wp_idiv hX (dk DX1_unlikePlaces 26 rfl) (by decide) ?_
      refine wp_goto (tgt := 50) hX (dk DX1_unlikePlaces 27 rfl) (by decide) ?_
      -- to 50
      exact wp_ireturn hX hR (dk DX1_unlikePlaces 30 rfl) rfl (Nat.le_refl _) (Nat.le_refl _) (⟨by rw [junl, if_neg h, if_pos h2], rfl⟩)
  · refine wp_aload_n hX (dk DX1_unlikePlaces 9 rfl) rfl ?_
    refine w_geti hX flX1_34 (dk DX1_unlikePlaces 10 rfl) (by decide) ha.1 ?_
    refine wp_iconst (v := 4) hX (dk DX1_unlikePlaces 11 rfl) (by decide) ?_
    refine wp_idiv hX (dk DX1_unlikePlaces 12 rfl) (by decide) ?_
    exact wp_ireturn hX hR (dk DX1_unlikePlaces 13 rfl) rfl (Nat.le_refl _) (Nat.le_refl _) (⟨by rw [junl, if_pos h], rfl⟩)
theorem jwide_in (s : Int32) : ∀ k, k ≤ 4 → ∃ w, 1 ≤ w ∧ w ≤ k + 1 ∧ jwide s k = nI w
  | 0, _ => ⟨1, by omega, by omega, rfl⟩
  | k + 1, h => by
    rw [jwide]
    split
    · obtain ⟨w, h1, h2, h3⟩ := jwide_in s k (by omega)
      exact ⟨w, h1, by omega, h3⟩
    · exact ⟨k + 2, by omega, by omega, nI_1 (k + 1)⟩
theorem jtall_in (s : Int32) : ∀ k, k ≤ 4 → ∃ w, 1 ≤ w ∧ w ≤ k + 1 ∧ jtall s k = nI w
  | 0, _ => ⟨1, by omega, by omega, rfl⟩
  | k + 1, h => by
    rw [jtall]
    split
    · obtain ⟨w, h1, h2, h3⟩ := jtall_in s k (by omega)
      exact ⟨w, h1, by omega, h3⟩
    · exact ⟨k + 2, by omega, by omega, nI_1 (k + 1)⟩
/-- how far a form may go right, down -/
def jr (s : Int32) : Nat := 5 - (jwide s 4).toNatClampNeg
def jdn (s : Int32) : Nat := 5 - (jtall s 4).toNatClampNeg
theorem jr_eq (s : Int32) : (5 : Int32) - jwide s 4 = nI (jr s) ∧ jr s ≤ 4 := by
  obtain ⟨w, h1, h2, h3⟩ := jwide_in s 4 (by omega)
  unfold jr
  rw [h3, nI_clamp (by omega)]
  exact ⟨pk_sub (a := 5) h2, by omega⟩
theorem jdn_eq (s : Int32) : (5 : Int32) - jtall s 4 = nI (jdn s) ∧ jdn s ≤ 4 := by
  obtain ⟨w, h1, h2, h3⟩ := jtall_in s 4 (by omega)
  unfold jdn
  rw [h3, nI_clamp (by omega)]
  exact ⟨pk_sub (a := 5) h2, by omega⟩
/-- a place and its way -/
def jit (fm : Int32) (t dy dx : Nat) : Int32 × Int32 := (fm <<< ((5 * nI dy + nI dx) &&& 31), 100 * nI t + 10 * nI dy + nI dx)
def jrow (fm : Int32) (t dy n : Nat) : List (Int32 × Int32) := (List.range n).map (jit fm t dy)
def jtrn (fm : Int32) (t n : Nat) : List (Int32 × Int32) := (List.range n).flatMap (fun dy => jrow fm t dy (jr fm + 1))
theorem jrow_len (fm : Int32) (t dy n : Nat) : (jrow fm t dy n).length = n := by simp [jrow]
theorem jtrn_len (fm : Int32) (t : Nat) : ∀ n, (jtrn fm t n).length = n * (jr fm + 1)
  | 0 => by simp [jtrn]
  | n + 1 => by
    have h := jtrn_len fm t n
    unfold jtrn at h ⊢
    rw [List.range_succ, List.flatMap_append, List.length_append, h]
    simp [jrow_len, Nat.succ_mul]
theorem jrow_succ (fm : Int32) (t dy n : Nat) : jrow fm t dy (n + 1) = jrow fm t dy n ++ [jit fm t dy n] := by simp [jrow, List.range_succ]
theorem jtrn_succ (fm : Int32) (t n : Nat) : jtrn fm t (n + 1) = jtrn fm t n ++ jrow fm t n (jr fm + 1) := by simp [jtrn, List.range_succ]
/-- the Form at a holds the places l -/
def hasP (f : Nat → Nat → Int32) (a : Nat) (l : List (Int32 × Int32)) : Prop := f a 5 = nI l.length ∧ l.length ≤ 100 ∧ ∀ (j : Nat) (q : Int32 × Int32), l[j]? = some q → f (a + 2) j = q.1 ∧ f (a + 3) j = q.2
/-- only the places of the Form at a have changed -/
def sameP (f f2 : Nat → Nat → Int32) (a : Nat) : Prop := (∀ b, b ≠ a → b ≠ a + 2 → b ≠ a + 3 → f2 b = f b) ∧ ∀ i, i ≠ 5 → f2 a i = f a i
theorem hasP.add {f : Nat → Nat → Int32} {a : Nat} {l : List (Int32 × Int32)} (h : hasP f a l) (hl : l.length < 100) (q : Int32 × Int32) : hasP (u2 (u2 (u2 f (a + 2) l.length q.1) (a + 3) l.length q.2) a 5 (nI l.length + 1)) a (l ++ [q]) := by
  refine ⟨?_, by simp; omega, fun j p hp => ?_⟩
  · simp [u2, nI_1]
  · by_cases hj : j < l.length
    · rw [List.getElem?_append_left hj] at hp
      obtain ⟨h1, h2⟩ := h.2.2 j p hp
      have : j ≠ l.length := by omega
      simp [u2, this, h1, h2]
    · rw [List.getElem?_append_right (by omega)] at hp
      have : j - l.length = 0 := by
        have := (List.getElem?_eq_some_iff.mp hp).1
        simp at this
        omega
      rw [this] at hp
      cases hp
      have : j = l.length := by omega
      simp [u2, this]
theorem sameP.rf {f : Nat → Nat → Int32} {a : Nat} : sameP f f a := ⟨fun _ _ _ _ => rfl, fun _ _ => rfl⟩
theorem sameP.add {f f2 : Nat → Nat → Int32} {a n : Nat} {v w z : Int32} (h : sameP f f2 a) : sameP f (u2 (u2 (u2 f2 (a + 2) n v) (a + 3) n w) a 5 z) a := by
  refine ⟨fun b h1 h2 h3 => ?_, fun i hi => ?_⟩
  · rw [u2_ne _ _ _ h1, u2_ne _ _ _ h3, u2_ne _ _ _ h2]
    exact h.1 b h1 h2 h3
  · simp [u2, hi]
    exact h.2 i hi
theorem sameP.trans {f f2 f3 : Nat → Nat → Int32} {a : Nat} (h : sameP f f2 a) (h2 : sameP f2 f3 a) : sameP f f3 a :=
  ⟨fun b g1 g2 g3 => (h2.1 b g1 g2 g3).trans (h.1 b g1 g2 g3), fun i hi => (h2.2 i hi).trans (h.2 i hi)⟩
theorem k_addPlaces (d : Nat) (sw : Bool) (f : Nat → Nat → Int32) (g : Nat → Nat → Int64) (a t : Nat) (l : List (Int32 × Int32)) (ha : isF a) (ht : t < 4) (hl : hasP f a l) (hlt : l.length ≤ 25 * t) : CT (d + 1) 0 0 iX1_addPlaces [.ref a, .int (nI t)] (S sw f g) (QS (fun r sw2 f2 g2 => r = none ∧ sw2 = sw ∧ g2 = g ∧ sameP f f2 a ∧ hasP f2 a (l ++ jtrn (f (a + 1) t) t (jdn (f (a + 1) t) + 1)))) := by
  refine CT.of rfl (Nat.le_of_ble_eq_true rfl) (fun X hX hR hN _ => ?_)
  have hX : Good X RX1 cX1_addPlaces (d + 1) 0 0 := hX
  have hN : x_nl X = 7 := hN
  show WP X 0 0 0 [_, _, _, _, _, _, _] [] _
  refine wp_aload_n hX (dk DX1_addPlaces 0 rfl) rfl ?_
  refine w_getr hX flX1_11 (dk DX1_addPlaces 1 rfl) ha.1 (ha.2.1 sw).1 ?_
  refine wp_iload_n hX (dk DX1_addPlaces 2 rfl) rfl ?_
  refine w_iald (j := _) hX (dk DX1_addPlaces 3 rfl) ha.2.2.1 rfl (by rw [ha.2.2.2.2.2.1]; omega) ?_
  refine wp_istore_n hX (dk DX1_addPlaces 4 rfl) rfl rfl hN (Nat.le_of_ble_eq_true rfl) ?_
  show WP _ _ _ 7 [_, _, _, _, _, _, _] [] _
  obtain ⟨fm, hfm⟩ : ∃ z, z = f (a + 1) t := ⟨_, rfl⟩
  rw [← hfm]
  obtain ⟨er, hr4⟩ := jr_eq fm
  obtain ⟨ed, hd4⟩ := jdn_eq fm
  refine wp_iconst (v := 5) hX (dk DX1_addPlaces 5 rfl) (by decide) ?_
  refine wp_iload_n hX (dk DX1_addPlaces 6 rfl) rfl ?_
  refine w_callS (As := [_]) lkX1_56 hX (dk DX1_addPlaces 7 rfl) rfl (by simp [Value.category]) (k_wide d fm _) ?_
  show WP _ _ _ 12 [_, _, _, _, _, _, _] [_, _] _
  refine wp_isub hX (dk DX1_addPlaces 8 rfl) ?_
  rw [er]
  refine wp_istore_n hX (dk DX1_addPlaces 9 rfl) rfl rfl hN (Nat.le_of_ble_eq_true rfl) ?_
  show WP _ _ _ 14 [_, _, _, _, _, _, _] [] _
  refine wp_iconst (v := 5) hX (dk DX1_addPlaces 10 rfl) (by decide) ?_
  refine wp_iload_n hX (dk DX1_addPlaces 11 rfl) rfl ?_
  refine w_callS (As := [_]) lkX1_59 hX (dk DX1_addPlaces 12 rfl) rfl (by simp [Value.category]) (k_tall d fm _) ?_
  show WP _ _ _ 19 [_, _, _, _, _, _, _] [_, _] _
  refine wp_isub hX (dk DX1_addPlaces 13 rfl) ?_
  rw [ed]
  refine wp_istore hX (dk DX1_addPlaces 14 rfl) rfl hN (Nat.le_of_ble_eq_true rfl) ?_
  show WP _ _ _ 22 [_, _, _, _, _, _, _] [] _
  have lo : ∀ (n dy : Nat) (f2 : Nat → Nat → Int32) (z : Option Value), dy + n = jdn fm + 1 → sameP f f2 a → hasP f2 a (l ++ jtrn fm t dy) → WP X 0 0 25 [some (.ref a), some (.int (nI t)), some (.int fm), some (.int (nI (jr fm))), some (.int (nI (jdn fm))), some (.int (nI dy)), z] [] (S sw f2 g) := by
    intro n
    induction n with
    | zero =>
      intro dy f2 z hn hs hp
      obtain rfl : dy = jdn fm + 1 := by omega
      refine wp_iload hX (dk DX1_addPlaces 17 rfl) rfl ?_
      refine wp_iload hX (dk DX1_addPlaces 18 rfl) rfl ?_
      refine wp_icmp_gt (tgt := 112) hX (dk DX1_addPlaces 19 rfl) (by decide) (fun _ => ?_) (fun h_ => absurd ((nI_lt (by omega) (by omega))) h_)
      exact wp_return hX hR (dk DX1_addPlaces_1 5 rfl) (Nat.le_refl _) (Nat.le_refl _) (⟨sw, f2, g, rfl, rfl, rfl, rfl, hs, by rw [← hfm]; exact hp⟩)
    | succ n ih =>
      intro dy f2 z hn hs hp
      refine wp_iload hX (dk DX1_addPlaces 17 rfl) rfl ?_
      refine wp_iload hX (dk DX1_addPlaces 18 rfl) rfl ?_
      refine wp_icmp_gt (tgt := 112) hX (dk DX1_addPlaces 19 rfl) (by decide) (fun h_ => absurd h_ ((nI_nlt (by omega) (by omega)))) (fun _ => ?_)
      refine wp_iconst (v := 0) hX (dk DX1_addPlaces 20 rfl) (by decide) ?_
      refine wp_istore hX (dk DX1_addPlaces 21 rfl) rfl hN (Nat.le_of_ble_eq_true rfl) ?_
      show WP _ _ _ 35 [_, _, _, _, _, _, _] [] _
      have li : ∀ (m dx : Nat) (f3 : Nat → Nat → Int32), dx + m = jr fm + 1 → sameP f f3 a → hasP f3 a (l ++ jtrn fm t dy ++ jrow fm t dy dx) → WP X 0 0 35 [some (.ref a), some (.int (nI t)), some (.int fm), some (.int (nI (jr fm))), some (.int (nI (jdn fm))), some (.int (nI dy)), some (.int (nI dx))] [] (S sw f3 g) := by
        intro m
        induction m with
        | zero =>
          intro dx f3 hm hs hp
          obtain rfl : dx = jr fm + 1 := by omega
          refine wp_iload hX (dk DX1_addPlaces 22 rfl) rfl ?_
          refine wp_iload_n hX (dk DX1_addPlaces 23 rfl) rfl ?_
          refine wp_icmp_gt (tgt := 106) hX (dk DX1_addPlaces 24 rfl) (by decide) (fun _ => ?_) (fun h_ => absurd ((nI_lt (by omega) (by omega))) h_)
          refine wp_iinc hX (dk DX1_addPlaces_1 3 rfl) rfl (nI_inc _) rfl hN ?_
          show WP _ _ _ 109 [_, _, _, _, _, _, _] [] _
          refine wp_goto (tgt := 25) hX (dk DX1_addPlaces_1 4 rfl) (by decide) ?_
          -- to 25
          refine ih (dy + 1) f3 _ (by omega) hs ?_
          rw [jtrn_succ, ← List.append_assoc]
          exact hp
        | succ m ihm =>
          intro dx f3 hm hs hp
          have hlen : (l ++ jtrn fm t dy ++ jrow fm t dy dx).length < 100 := by
            simp only [List.length_append, jtrn_len, jrow_len]
            have : dy * (jr fm + 1) ≤ 4 * (jr fm + 1) := Nat.mul_le_mul_right _ (by omega)
            omega
          refine wp_iload hX (dk DX1_addPlaces 22 rfl) rfl ?_
          refine wp_iload_n hX (dk DX1_addPlaces 23 rfl) rfl ?_
          refine wp_icmp_gt (tgt := 106) hX (dk DX1_addPlaces 24 rfl) (by decide) (fun h_ => absurd h_ ((nI_nlt (by omega) (by omega)))) (fun _ => ?_)
          refine wp_aload_n hX (dk DX1_addPlaces 25 rfl) rfl ?_
          refine w_geti hX flX1_34 (dk DX1_addPlaces 26 rfl) (by decide) ha.1 ?_
          refine wp_bipush (v := 100) hX (dk DX1_addPlaces 27 rfl) (by decide) ?_
          refine wp_icmp_ge (tgt := 106) hX (dk DX1_addPlaces 28 rfl) (by decide) (fun h_ => absurd h_ ((by rw [hp.1]; exact nI_ge (b := 100) hlen (by omega)))) (fun _ => ?_)
          refine wp_aload_n hX (dk DX1_addPlaces 29 rfl) rfl ?_
          refine w_getr hX flX1_15 (dk DX1_addPlaces 30 rfl) ha.1 (ha.2.1 sw).2.1 ?_
          refine wp_aload_n hX (dk DX1_addPlaces 31 rfl) rfl ?_
          refine w_geti hX flX1_34 (dk DX1_addPlaces 32 rfl) (by decide) ha.1 ?_
          refine wp_iload_n hX (dk DX1_addPlaces 33 rfl) rfl ?_
          refine wp_iconst (v := 5) hX (dk DX1_addPlaces 34 rfl) (by decide) ?_
          refine wp_iload hX (dk DX1_addPlaces 35 rfl) rfl ?_
          refine wp_imul hX (dk DX1_addPlaces 36 rfl) ?_
          refine wp_iload hX (dk DX1_addPlaces 37 rfl) rfl ?_
          refine wp_iadd hX (dk DX1_addPlaces 38 rfl) ?_
          refine wp_ishl hX (dk DX1_addPlaces 39 rfl) ?_
          rw [hp.1]
          refine w_iast (j := _) hX (dk DX1_addPlaces 40 rfl) ha.2.2.2.1 rfl (by rw [ha.2.2.2.2.2.2.1]; omega) ?_
          refine wp_aload_n hX (dk DX1_addPlaces 41 rfl) rfl ?_
          refine w_getr hX flX1_18 (dk DX1_addPlaces 42 rfl) ha.1 (ha.2.1 sw).2.2 ?_
          refine wp_aload_n hX (dk DX1_addPlaces 43 rfl) rfl ?_
          refine w_geti hX flX1_34 (dk DX1_addPlaces 44 rfl) (by decide) ha.1 ?_
          rw [show u2 f3 (a + 2) (l ++ jtrn fm t dy ++ jrow fm t dy dx).length (fm <<< (5 * nI dy + nI dx &&& 31)) a 5 = nI (l ++ jtrn fm t dy ++ jrow fm t dy dx).length by rw [u2_ne _ _ _ (by omega)]; exact hp.1]
          refine wp_bipush (v := 100) hX (dk DX1_addPlaces 45 rfl) (by decide) ?_
          refine wp_iload_n hX (dk DX1_addPlaces 46 rfl) rfl ?_
          refine wp_imul hX (dk DX1_addPlaces 47 rfl) ?_
          refine wp_bipush (v := 10) hX (dk DX1_addPlaces 48 rfl) (by decide) ?_
          refine wp_iload hX (dk DX1_addPlaces 49 rfl) rfl ?_
          refine wp_imul hX (dk DX1_addPlaces 50 rfl) ?_
          refine wp_iadd hX (dk DX1_addPlaces 51 rfl) ?_
          refine wp_iload hX (dk DX1_addPlaces 52 rfl) rfl ?_
          refine wp_iadd hX (dk DX1_addPlaces 53 rfl) ?_
          refine w_iast (j := _) hX (dk DX1_addPlaces 54 rfl) ha.2.2.2.2.1 rfl (by rw [ha.2.2.2.2.2.2.2]; omega) ?_
          refine wp_aload_n hX (dk DX1_addPlaces 55 rfl) rfl ?_
          refine wp_dup hX (dk DX1_addPlaces 56 rfl) rfl ?_
          refine w_geti hX flX1_34 (dk DX1_addPlaces 57 rfl) (by decide) ha.1 ?_
          rw [show u2 (u2 f3 (a + 2) (l ++ jtrn fm t dy ++ jrow fm t dy dx).length (fm <<< (5 * nI dy + nI dx &&& 31))) (a + 3) (l ++ jtrn fm t dy ++ jrow fm t dy dx).length (100 * nI t + 10 * nI dy + nI dx) a 5 = nI (l ++ jtrn fm t dy ++ jrow fm t dy dx).length by rw [u2_ne _ _ _ (by omega), u2_ne _ _ _ (by omega)]; exact hp.1]
          refine wp_iconst (v := 1) hX (dk DX1_addPlaces 58 rfl) (by decide) ?_
          refine wp_iadd hX (dk DX1_addPlaces 59 rfl) ?_
          refine w_puti hX fpX1_34 (dk DX1_addPlaces_1 0 rfl) ha.1 ?_
          refine wp_iinc hX (dk DX1_addPlaces_1 1 rfl) rfl (nI_inc _) rfl hN ?_
          show WP _ _ _ 103 [_, _, _, _, _, _, _] [] _
          refine wp_goto (tgt := 35) hX (dk DX1_addPlaces_1 2 rfl) (by decide) ?_
          -- to 35
          refine ihm (dx + 1) _ (by omega) hs.add ?_
          rw [jrow_succ, ← List.append_assoc]
          exact hp.add hlen (jit fm t dy dx)
      exact li (jr fm + 1) 0 f2 (by omega) hs (by simpa [jrow] using hp)
  refine wp_iconst (v := 0) hX (dk DX1_addPlaces 15 rfl) (by decide) ?_
  refine wp_istore hX (dk DX1_addPlaces 16 rfl) rfl hN (Nat.le_of_ble_eq_true rfl) ?_
  show WP _ _ _ 25 [_, _, _, _, _, _, _] [] _
  exact lo (jdn fm + 1) 0 f none (by omega) sameP.rf (by simpa [jtrn] using hl)
