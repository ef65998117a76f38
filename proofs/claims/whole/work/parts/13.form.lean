/-! FORM: walks. Each method's end is told by a function of Lean that does the same steps -/
theorem nI_inc (a : Nat) : nI a + Int32.ofInt 1 = nI (a + 1) := nI_1 a
/-- Integer.bitCount -/
def jpc (x : Int32) : Int32 :=
  let a := x - ((x.toUInt32 >>> ((1 : Int32).toUInt32 &&& Int32.toUInt32 31)).toInt32 &&& 1431655765)
  let b := (a &&& 858993459) + ((a.toUInt32 >>> ((2 : Int32).toUInt32 &&& Int32.toUInt32 31)).toInt32 &&& 858993459)
  let c := (b + (b.toUInt32 >>> ((4 : Int32).toUInt32 &&& Int32.toUInt32 31)).toInt32) &&& 252645135
  let e := c + (c.toUInt32 >>> ((8 : Int32).toUInt32 &&& Int32.toUInt32 31)).toInt32
  let f := e + (e.toUInt32 >>> ((16 : Int32).toUInt32 &&& Int32.toUInt32 31)).toInt32
  f &&& 63
theorem k_bitCount (d : Nat) (x : Int32) (M : mM) : CT d 0 0 iJ6_bitCount_0f7a4 [.int x] M (QR (some (.int (jpc x))) M) := by
  refine CT.of rfl (Nat.le_of_ble_eq_true rfl) (fun X hX hR hN _ => ?_)
  have hX : Good X RJ6 cJ6_bitCount_0f7a4 d 0 0 := hX
  have hN : x_nl X = 1 := hN
  show WP X 0 0 0 [_] [] _
  refine wp_iload_n hX (dk DJ6_bitCount_0f7a4 0 rfl) rfl ?_
  refine wp_iload_n hX (dk DJ6_bitCount_0f7a4 1 rfl) rfl ?_
  refine wp_iconst (v := 1) hX (dk DJ6_bitCount_0f7a4 2 rfl) (by decide) ?_
  refine wp_iushr hX (dk DJ6_bitCount_0f7a4 3 rfl) ?_
  refine wp_ldcw hX (dk DJ6_bitCount_0f7a4 4 rfl) kcJ6_265 ?_
  refine wp_iand hX (dk DJ6_bitCount_0f7a4 5 rfl) ?_
  refine wp_isub hX (dk DJ6_bitCount_0f7a4 6 rfl) ?_
  refine wp_istore_n hX (dk DJ6_bitCount_0f7a4 7 rfl) rfl rfl hN (Nat.le_of_ble_eq_true rfl) ?_
  show WP _ _ _ 10 [_] [] _
  refine wp_iload_n hX (dk DJ6_bitCount_0f7a4 8 rfl) rfl ?_
  refine wp_ldcw hX (dk DJ6_bitCount_0f7a4 9 rfl) kcJ6_266 ?_
  refine wp_iand hX (dk DJ6_bitCount_0f7a4 10 rfl) ?_
  refine wp_iload_n hX (dk DJ6_bitCount_0f7a4 11 rfl) rfl ?_
  refine wp_iconst (v := 2) hX (dk DJ6_bitCount_0f7a4 12 rfl) (by decide) ?_
  refine wp_iushr hX (dk DJ6_bitCount_0f7a4 13 rfl) ?_
  refine wp_ldcw hX (dk DJ6_bitCount_0f7a4 14 rfl) kcJ6_266 ?_
  refine wp_iand hX (dk DJ6_bitCount_0f7a4 15 rfl) ?_
  refine wp_iadd hX (dk DJ6_bitCount_0f7a4 16 rfl) ?_
  refine wp_istore_n hX (dk DJ6_bitCount_0f7a4 17 rfl) rfl rfl hN (Nat.le_of_ble_eq_true rfl) ?_
  show WP _ _ _ 24 [_] [] _
  refine wp_iload_n hX (dk DJ6_bitCount_0f7a4 18 rfl) rfl ?_
  refine wp_iload_n hX (dk DJ6_bitCount_0f7a4 19 rfl) rfl ?_
  refine wp_iconst (v := 4) hX (dk DJ6_bitCount_0f7a4 20 rfl) (by decide) ?_
  refine wp_iushr hX (dk DJ6_bitCount_0f7a4 21 rfl) ?_
  refine wp_iadd hX (dk DJ6_bitCount_0f7a4 22 rfl) ?_
  refine wp_ldcw hX (dk DJ6_bitCount_0f7a4 23 rfl) kcJ6_267 ?_
  refine wp_iand hX (dk DJ6_bitCount_0f7a4 24 rfl) ?_
  refine wp_istore_n hX (dk DJ6_bitCount_0f7a4 25 rfl) rfl rfl hN (Nat.le_of_ble_eq_true rfl) ?_
  show WP _ _ _ 34 [_] [] _
  refine wp_iload_n hX (dk DJ6_bitCount_0f7a4 26 rfl) rfl ?_
  refine wp_iload_n hX (dk DJ6_bitCount_0f7a4 27 rfl) rfl ?_
  refine wp_bipush (v := 8) hX (dk DJ6_bitCount_0f7a4 28 rfl) (by decide) ?_
  refine wp_iushr hX (dk DJ6_bitCount_0f7a4 29 rfl) ?_
  refine wp_iadd hX (dk DJ6_bitCount_0f7a4 30 rfl) ?_
  refine wp_istore_n hX (dk DJ6_bitCount_0f7a4 31 rfl) rfl rfl hN (Nat.le_of_ble_eq_true rfl) ?_
  show WP _ _ _ 41 [_] [] _
  refine wp_iload_n hX (dk DJ6_bitCount_0f7a4 32 rfl) rfl ?_
  refine wp_iload_n hX (dk DJ6_bitCount_0f7a4 33 rfl) rfl ?_
  refine wp_bipush (v := 16) hX (dk DJ6_bitCount_0f7a4 34 rfl) (by decide) ?_
  refine wp_iushr hX (dk DJ6_bitCount_0f7a4 35 rfl) ?_
  refine wp_iadd hX (dk DJ6_bitCount_0f7a4 36 rfl) ?_
  refine wp_istore_n hX (dk DJ6_bitCount_0f7a4 37 rfl) rfl rfl hN (Nat.le_of_ble_eq_true rfl) ?_
  show WP _ _ _ 48 [_] [] _
  refine wp_iload_n hX (dk DJ6_bitCount_0f7a4 38 rfl) rfl ?_
  refine wp_bipush (v := 63) hX (dk DJ6_bitCount_0f7a4 39 rfl) (by decide) ?_
  refine wp_iand hX (dk DJ6_bitCount_0f7a4 40 rfl) ?_
  exact wp_ireturn hX hR (dk DJ6_bitCount_0f7a4 41 rfl) rfl (Nat.le_refl _) (Nat.le_refl _) (⟨rfl, rfl⟩)
/-- holds(set, figure) -/
def jbit (s i : Int32) : Int32 := if (s >>> (i &&& 31)) &&& 1 = 1 then 1 else 0
theorem k_holds (d : Nat) (s i : Int32) (M : mM) : CT d 0 0 iX10_holds [.int s, .int i] M (QR (some (.int (jbit s i))) M) := by
  refine CT.of rfl (Nat.le_of_ble_eq_true rfl) (fun X hX hR hN _ => ?_)
  have hX : Good X RX10 cX10_holds d 0 0 := hX
  have hN : x_nl X = 2 := hN
  show WP X 0 0 0 [_, _] [] _
  refine wp_iload_n hX (dk DX10_holds 0 rfl) rfl ?_
  refine wp_iload_n hX (dk DX10_holds 1 rfl) rfl ?_
  refine wp_ishr hX (dk DX10_holds 2 rfl) ?_
  refine wp_iconst (v := 1) hX (dk DX10_holds 3 rfl) (by decide) ?_
  refine wp_iand hX (dk DX10_holds 4 rfl) ?_
  refine wp_iconst (v := 1) hX (dk DX10_holds 5 rfl) (by decide) ?_
  refine wp_icmp_ne (tgt := 13) hX (dk DX10_holds 6 rfl) (by decide) (fun h => ?_) (fun h => ?_)
  · refine wp_iconst (v := 0) hX (dk DX10_holds 9 rfl) (by decide) ?_
    exact wp_ireturn hX hR (dk DX10_holds 10 rfl) rfl (Nat.le_refl _) (Nat.le_refl _) (⟨by rw [jbit, if_neg h], rfl⟩)
  · refine wp_iconst (v := 1) hX (dk DX10_holds 7 rfl) (by decide) ?_
    refine wp_goto (tgt := 14) hX (dk DX10_holds 8 rfl) (by decide) ?_
    -- to 14
    exact wp_ireturn hX hR (dk DX10_holds 10 rfl) rfl (Nat.le_refl _) (Nat.le_refl _) (⟨by rw [jbit, if_pos h], rfl⟩)
/-- wide -/
def jwide (s : Int32) : Nat → Int32
  | 0 => 1
  | k + 1 => if s &&& ((1082401 : Int32) <<< (nI (k + 1) &&& 31)) = 0 then jwide s k else nI (k + 1) + 1
theorem k_wide (d : Nat) (s : Int32) (M : mM) : CT d 0 0 iX1_wide [.int s] M (QR (some (.int (jwide s 4))) M) := by
  refine CT.of rfl (Nat.le_of_ble_eq_true rfl) (fun X hX hR hN _ => ?_)
  have hX : Good X RX1 cX1_wide d 0 0 := hX
  have hN : x_nl X = 3 := hN
  show WP X 0 0 0 [_, _, _] [] _
  refine wp_iconst (v := 1) hX (dk DX1_wide 0 rfl) (by decide) ?_
  refine wp_istore_n hX (dk DX1_wide 1 rfl) rfl rfl hN (Nat.le_of_ble_eq_true rfl) ?_
  show WP _ _ _ 2 [_, _, _] [] _
  refine wp_iconst (v := 1) hX (dk DX1_wide 2 rfl) (by decide) ?_
  refine wp_istore_n hX (dk DX1_wide 3 rfl) rfl rfl hN (Nat.le_of_ble_eq_true rfl) ?_
  show WP _ _ _ 4 [_, _, _] [] _
  have loop : ∀ (n k : Nat), k + n = 4 → WP X 0 0 4 [some (.int s), some (.int (jwide s k)), some (.int (nI (k + 1)))] [] M := by
    intro n
    induction n with
    | zero =>
      intro k hk
      obtain rfl : k = 4 := by omega
      refine wp_iload_n hX (dk DX1_wide 4 rfl) rfl ?_
      refine wp_iconst (v := 5) hX (dk DX1_wide 5 rfl) (by decide) ?_
      refine wp_icmp_ge (tgt := 28) hX (dk DX1_wide 6 rfl) (by decide) (fun _ => ?_) (fun h_ => absurd ((by decide)) h_)
      refine wp_iload_n hX (dk DX1_wide 19 rfl) rfl ?_
      exact wp_ireturn hX hR (dk DX1_wide 20 rfl) rfl (Nat.le_refl _) (Nat.le_refl _) (⟨rfl, rfl⟩)
    | succ n ih =>
      intro k hk
      refine wp_iload_n hX (dk DX1_wide 4 rfl) rfl ?_
      refine wp_iconst (v := 5) hX (dk DX1_wide 5 rfl) (by decide) ?_
      refine wp_icmp_ge (tgt := 28) hX (dk DX1_wide 6 rfl) (by decide) (fun h_ => absurd h_ ((nI_ge (a := k + 1) (b := 5) (by omega) (by omega)))) (fun _ => ?_)
      refine wp_iload_n hX (dk DX1_wide 7 rfl) rfl ?_
      refine wp_ldc hX (dk DX1_wide 8 rfl) kcX1_55 ?_
      refine wp_iload_n hX (dk DX1_wide 9 rfl) rfl ?_
      refine wp_ishl hX (dk DX1_wide 10 rfl) ?_
      refine wp_iand hX (dk DX1_wide 11 rfl) ?_
      refine wp_if_eq (tgt := 22) hX (dk DX1_wide 12 rfl) (by decide) (fun h => ?_) (fun h => ?_)
      · refine wp_iinc hX (dk DX1_wide 17 rfl) rfl (nI_inc _) rfl hN ?_
        show WP _ _ _ 25 [_, _, _] [] _
        refine wp_goto (tgt := 4) hX (dk DX1_wide 18 rfl) (by decide) ?_
        -- to 4
        have := ih (k + 1) (by omega)
        rw [jwide, if_pos h] at this
        exact this
      · refine wp_iload_n hX (dk DX1_wide 13 rfl) rfl ?_
        refine wp_iconst (v := 1) hX (dk DX1_wide 14 rfl) (by decide) ?_
        refine wp_iadd hX (dk DX1_wide 15 rfl) ?_
        refine wp_istore_n hX (dk DX1_wide 16 rfl) rfl rfl hN (Nat.le_of_ble_eq_true rfl) ?_
        show WP _ _ _ 22 [_, _, _] [] _
        refine wp_iinc hX (dk DX1_wide 17 rfl) rfl (nI_inc _) rfl hN ?_
        show WP _ _ _ 25 [_, _, _] [] _
        refine wp_goto (tgt := 4) hX (dk DX1_wide 18 rfl) (by decide) ?_
        -- to 4
        have := ih (k + 1) (by omega)
        rw [jwide, if_neg h] at this
        exact this
  exact loop 4 0 rfl
/-- the first place within x: k places are left to look at, from j on -/
def jfirst (p : Nat → Int32) (x : Int32) : Nat → Nat → Int32
  | 0, _ => -2
  | k + 1, j => if p j &&& (x ^^^ (-1)) = 0 then nI j else jfirst p x k (j + 1)
/-- a Form's cells -/
def isF (a : Nat) : Prop := kd0 a = 1 ∧ (∀ sw, rf0 sw a 0 = some (a + 1) ∧ rf0 sw a 1 = some (a + 2) ∧ rf0 sw a 2 = some (a + 3)) ∧ kd0 (a + 1) = 12 ∧ kd0 (a + 2) = 12 ∧ kd0 (a + 3) = 12 ∧ ln0 (a + 1) = 4 ∧ ln0 (a + 2) = 100 ∧ ln0 (a + 3) = 100
theorem k_firstPlace (d : Nat) (sw : Bool) (f : Nat → Nat → Int32) (g : Nat → Nat → Int64) (a k : Nat) (x : Int32) (ha : isF a) (hp : f a 5 = nI k) (hk : k ≤ 100) : CT d 0 0 iX1_firstPlace [.ref a, .int x] (S sw f g) (QR (some (.int (jfirst (f (a + 2)) x k 0))) (S sw f g)) := by
  refine CT.of rfl (Nat.le_of_ble_eq_true rfl) (fun X hX hR hN _ => ?_)
  have hX : Good X RX1 cX1_firstPlace d 0 0 := hX
  have hN : x_nl X = 3 := hN
  show WP X 0 0 0 [_, _, _] [] _
  refine wp_iconst (v := 0) hX (dk DX1_firstPlace 0 rfl) (by decide) ?_
  refine wp_istore_n hX (dk DX1_firstPlace 1 rfl) rfl rfl hN (Nat.le_of_ble_eq_true rfl) ?_
  show WP _ _ _ 2 [_, _, _] [] _
  have loop : ∀ (n j : Nat), j + n = k → WP X 0 0 2 [some (.ref a), some (.int x), some (.int (nI j))] [] (S sw f g) ∨ jfirst (f (a + 2)) x k 0 ≠ jfirst (f (a + 2)) x n j := by
    intro n
    induction n with
    | zero =>
      intro j hj
      by_cases e : jfirst (f (a + 2)) x k 0 = jfirst (f (a + 2)) x 0 j
      · left
        refine wp_iload_n hX (dk DX1_firstPlace 2 rfl) rfl ?_
        refine wp_aload_n hX (dk DX1_firstPlace 3 rfl) rfl ?_
        refine w_geti hX flX1_34 (dk DX1_firstPlace 4 rfl) (by decide) ha.1 ?_
        refine wp_icmp_ge (tgt := 31) hX (dk DX1_firstPlace 5 rfl) (by decide) (fun _ => ?_) (fun h_ => absurd ((by rw [hp]; exact nI_le (by omega) (by omega))) h_)
        refine wp_bipush (v := -2) hX (dk DX1_firstPlace 19 rfl) (by decide) ?_
        exact wp_ireturn hX hR (dk DX1_firstPlace 20 rfl) rfl (Nat.le_refl _) (Nat.le_refl _) (⟨by rw [e]; rfl, rfl⟩)
      · exact Or.inr e
    | succ n ih =>
      intro j hj
      by_cases e : jfirst (f (a + 2)) x k 0 = jfirst (f (a + 2)) x (n + 1) j
      · left
        refine wp_iload_n hX (dk DX1_firstPlace 2 rfl) rfl ?_
        refine wp_aload_n hX (dk DX1_firstPlace 3 rfl) rfl ?_
        refine w_geti hX flX1_34 (dk DX1_firstPlace 4 rfl) (by decide) ha.1 ?_
        refine wp_icmp_ge (tgt := 31) hX (dk DX1_firstPlace 5 rfl) (by decide) (fun h_ => absurd h_ ((by rw [hp]; exact nI_ge (by omega) (by omega)))) (fun _ => ?_)
        refine wp_aload_n hX (dk DX1_firstPlace 6 rfl) rfl ?_
        refine w_getr hX flX1_15 (dk DX1_firstPlace 7 rfl) ha.1 (ha.2.1 sw).2.1 ?_
        refine wp_iload_n hX (dk DX1_firstPlace 8 rfl) rfl ?_
        refine w_iald (j := _) hX (dk DX1_firstPlace 9 rfl) ha.2.2.2.1 rfl (by rw [ha.2.2.2.2.2.2.1]; omega) ?_
        refine wp_iload_n hX (dk DX1_firstPlace 10 rfl) rfl ?_
        refine wp_iconst (v := -1) hX (dk DX1_firstPlace 11 rfl) (by decide) ?_
        refine wp_ixor hX (dk DX1_firstPlace 12 rfl) ?_
        refine wp_iand hX (dk DX1_firstPlace 13 rfl) ?_
        refine wp_if_ne (tgt := 25) hX (dk DX1_firstPlace 14 rfl) (by decide) (fun h => ?_) (fun h => ?_)
        · refine wp_iinc hX (dk DX1_firstPlace 17 rfl) rfl (nI_inc _) rfl hN ?_
          show WP _ _ _ 28 [_, _, _] [] _
          refine wp_goto (tgt := 2) hX (dk DX1_firstPlace 18 rfl) (by decide) ?_
          -- to 2
          rw [jfirst, if_neg h] at e
          exact (ih (j + 1) (by omega)).resolve_right (fun q => q e)
        · refine wp_iload_n hX (dk DX1_firstPlace 15 rfl) rfl ?_
          rw [jfirst, if_pos h] at e
          exact wp_ireturn hX hR (dk DX1_firstPlace 16 rfl) rfl (Nat.le_refl _) (Nat.le_refl _) (⟨by rw [e], rfl⟩)
      · exact Or.inr e
  exact (loop k 0 (by omega)).resolve_right (fun q => q rfl)
def jtall (s : Int32) : Nat → Int32
  | 0 => 1
  | k + 1 => if s &&& ((31 : Int32) <<< (5 * nI (k + 1) &&& 31)) = 0 then jtall s k else nI (k + 1) + 1
theorem k_tall (d : Nat) (s : Int32) (M : mM) : CT d 0 0 iX1_tall [.int s] M (QR (some (.int (jtall s 4))) M) := by
  refine CT.of rfl (Nat.le_of_ble_eq_true rfl) (fun X hX hR hN _ => ?_)
  have hX : Good X RX1 cX1_tall d 0 0 := hX
  have hN : x_nl X = 3 := hN
  show WP X 0 0 0 [_, _, _] [] _
  refine wp_iconst (v := 1) hX (dk DX1_tall 0 rfl) (by decide) ?_
  refine wp_istore_n hX (dk DX1_tall 1 rfl) rfl rfl hN (Nat.le_of_ble_eq_true rfl) ?_
  show WP _ _ _ 2 [_, _, _] [] _
  refine wp_iconst (v := 1) hX (dk DX1_tall 2 rfl) (by decide) ?_
  refine wp_istore_n hX (dk DX1_tall 3 rfl) rfl rfl hN (Nat.le_of_ble_eq_true rfl) ?_
  show WP _ _ _ 4 [_, _, _] [] _
  have loop : ∀ (n k : Nat), k + n = 4 → WP X 0 0 4 [some (.int s), some (.int (jtall s k)), some (.int (nI (k + 1)))] [] M := by
    intro n
    induction n with
    | zero =>
      intro k hk
      obtain rfl : k = 4 := by omega
      refine wp_iload_n hX (dk DX1_tall 4 rfl) rfl ?_
      refine wp_iconst (v := 5) hX (dk DX1_tall 5 rfl) (by decide) ?_
      refine wp_icmp_ge (tgt := 30) hX (dk DX1_tall 6 rfl) (by decide) (fun _ => ?_) (fun h_ => absurd ((by decide)) h_)
      refine wp_iload_n hX (dk DX1_tall 21 rfl) rfl ?_
      exact wp_ireturn hX hR (dk DX1_tall 22 rfl) rfl (Nat.le_refl _) (Nat.le_refl _) (⟨rfl, rfl⟩)
    | succ n ih =>
      intro k hk
      refine wp_iload_n hX (dk DX1_tall 4 rfl) rfl ?_
      refine wp_iconst (v := 5) hX (dk DX1_tall 5 rfl) (by decide) ?_
      refine wp_icmp_ge (tgt := 30) hX (dk DX1_tall 6 rfl) (by decide) (fun h_ => absurd h_ ((nI_ge (a := k + 1) (b := 5) (by omega) (by omega)))) (fun _ => ?_)
      refine wp_iload_n hX (dk DX1_tall 7 rfl) rfl ?_
      refine wp_bipush (v := 31) hX (dk DX1_tall 8 rfl) (by decide) ?_
      refine wp_iconst (v := 5) hX (dk DX1_tall 9 rfl) (by decide) ?_
      refine wp_iload_n hX (dk DX1_tall 10 rfl) rfl ?_
      refine wp_imul hX (dk DX1_tall 11 rfl) ?_
      refine wp_ishl hX (dk DX1_tall 12 rfl) ?_
      refine wp_iand hX (dk DX1_tall 13 rfl) ?_
      refine wp_if_eq (tgt := 24) hX (dk DX1_tall 14 rfl) (by decide) (fun h => ?_) (fun h => ?_)
      · refine wp_iinc hX (dk DX1_tall 19 rfl) rfl (nI_inc _) rfl hN ?_
        show WP _ _ _ 27 [_, _, _] [] _
        refine wp_goto (tgt := 4) hX (dk DX1_tall 20 rfl) (by decide) ?_
        -- to 4
        have := ih (k + 1) (by omega)
        rw [jtall, if_pos h] at this
        exact this
      · refine wp_iload_n hX (dk DX1_tall 15 rfl) rfl ?_
        refine wp_iconst (v := 1) hX (dk DX1_tall 16 rfl) (by decide) ?_
        refine wp_iadd hX (dk DX1_tall 17 rfl) ?_
        refine wp_istore_n hX (dk DX1_tall 18 rfl) rfl rfl hN (Nat.le_of_ble_eq_true rfl) ?_
        show WP _ _ _ 24 [_, _, _] [] _
        refine wp_iinc hX (dk DX1_tall 19 rfl) rfl (nI_inc _) rfl hN ?_
        show WP _ _ _ 27 [_, _, _] [] _
        refine wp_goto (tgt := 4) hX (dk DX1_tall 20 rfl) (by decide) ?_
        -- to 4
        have := ih (k + 1) (by omega)
        rw [jtall, if_neg h] at this
        exact this
  exact loop 4 0 rfl
/-- as far up and left as it goes -/
def jup : Nat → Int32 → Int32
  | 0, s => s
  | k + 1, s => if s &&& 31 = 0 then jup k (s >>> ((5 : Int32) &&& 31)) else s
def jlf : Nat → Int32 → Int32
  | 0, s => s
  | k + 1, s => if s &&& 1082401 = 0 then jlf k (s >>> ((1 : Int32) &&& 31)) else s
def jcor (s : Int32) : Int32 := jlf 4 (jup 4 s)
theorem k_cornered (d : Nat) (s : Int32) (M : mM) : CT d 0 0 iX1_cornered [.int s] M (QR (some (.int (jcor s))) M) := by
  refine CT.of rfl (Nat.le_of_ble_eq_true rfl) (fun X hX hR hN _ => ?_)
  have hX : Good X RX1 cX1_cornered d 0 0 := hX
  have hN : x_nl X = 3 := hN
  show WP X 0 0 0 [_, _, _] [] _
  refine wp_iload_n hX (dk DX1_cornered 0 rfl) rfl ?_
  refine wp_istore_n hX (dk DX1_cornered 1 rfl) rfl rfl hN (Nat.le_of_ble_eq_true rfl) ?_
  show WP _ _ _ 2 [_, _, _] [] _
  refine wp_iconst (v := 1) hX (dk DX1_cornered 2 rfl) (by decide) ?_
  refine wp_istore_n hX (dk DX1_cornered 3 rfl) rfl rfl hN (Nat.le_of_ble_eq_true rfl) ?_
  show WP _ _ _ 4 [_, _, _] [] _
  have lp2 : ∀ (n : Nat) (u : Int32), n ≤ 4 → jlf n u = jcor s → WP X 0 0 28 [some (.int s), some (.int u), some (.int (nI (5 - n)))] [] M := by
    intro n
    induction n with
    | zero =>
      intro u hn e
      refine wp_iload_n hX (dk DX1_cornered 19 rfl) rfl ?_
      refine wp_iconst (v := 5) hX (dk DX1_cornered 20 rfl) (by decide) ?_
      refine wp_icmp_ge (tgt := 50) hX (dk DX1_cornered 21 rfl) (by decide) (fun _ => ?_) (fun h_ => absurd ((by decide)) h_)
      refine wp_iload_n hX (dk DX1_cornered 32 rfl) rfl ?_
      exact wp_ireturn hX hR (dk DX1_cornered 33 rfl) rfl (Nat.le_refl _) (Nat.le_refl _) (⟨by rw [← e]; rfl, rfl⟩)
    | succ n ih =>
      intro u hn e
      refine wp_iload_n hX (dk DX1_cornered 19 rfl) rfl ?_
      refine wp_iconst (v := 5) hX (dk DX1_cornered 20 rfl) (by decide) ?_
      refine wp_icmp_ge (tgt := 50) hX (dk DX1_cornered 21 rfl) (by decide) (fun h_ => absurd h_ ((nI_ge (a := 5 - (n + 1)) (b := 5) (by omega) (by omega)))) (fun _ => ?_)
      refine wp_iload_n hX (dk DX1_cornered 22 rfl) rfl ?_
      refine wp_ldc hX (dk DX1_cornered 23 rfl) kcX1_55 ?_
      refine wp_iand hX (dk DX1_cornered 24 rfl) ?_
      refine wp_if_ne (tgt := 50) hX (dk DX1_cornered 25 rfl) (by decide) (fun h => ?_) (fun h => ?_)
      · refine wp_iload_n hX (dk DX1_cornered 32 rfl) rfl ?_
        rw [jlf, if_neg h] at e
        exact wp_ireturn hX hR (dk DX1_cornered 33 rfl) rfl (Nat.le_refl _) (Nat.le_refl _) (⟨by rw [← e], rfl⟩)
      · refine wp_iload_n hX (dk DX1_cornered 26 rfl) rfl ?_
        refine wp_iconst (v := 1) hX (dk DX1_cornered 27 rfl) (by decide) ?_
        refine wp_ishr hX (dk DX1_cornered 28 rfl) ?_
        refine wp_istore_n hX (dk DX1_cornered 29 rfl) rfl rfl hN (Nat.le_of_ble_eq_true rfl) ?_
        show WP _ _ _ 44 [_, _, _] [] _
        refine wp_iinc hX (dk DX1_cornered 30 rfl) rfl (nI_inc _) rfl hN ?_
        show WP _ _ _ 47 [_, _, _] [] _
        refine wp_goto (tgt := 28) hX (dk DX1_cornered 31 rfl) (by decide) ?_
        -- to 28
        rw [jlf, if_pos h] at e
        have := ih _ (by omega) e
        rw [show 5 - n = 5 - (n + 1) + 1 by omega] at this
        exact this
  have lp1 : ∀ (n : Nat) (u : Int32), n ≤ 4 → jup n u = jup 4 s → WP X 0 0 4 [some (.int s), some (.int u), some (.int (nI (5 - n)))] [] M := by
    intro n
    induction n with
    | zero =>
      intro u hn e
      refine wp_iload_n hX (dk DX1_cornered 4 rfl) rfl ?_
      refine wp_iconst (v := 5) hX (dk DX1_cornered 5 rfl) (by decide) ?_
      refine wp_icmp_ge (tgt := 26) hX (dk DX1_cornered 6 rfl) (by decide) (fun _ => ?_) (fun h_ => absurd ((by decide)) h_)
      refine wp_iconst (v := 1) hX (dk DX1_cornered 17 rfl) (by decide) ?_
      refine wp_istore_n hX (dk DX1_cornered 18 rfl) rfl rfl hN (Nat.le_of_ble_eq_true rfl) ?_
      show WP _ _ _ 28 [_, _, _] [] _
      exact lp2 4 u (by omega) (by rw [jcor, ← e]; rfl)
    | succ n ih =>
      intro u hn e
      refine wp_iload_n hX (dk DX1_cornered 4 rfl) rfl ?_
      refine wp_iconst (v := 5) hX (dk DX1_cornered 5 rfl) (by decide) ?_
      refine wp_icmp_ge (tgt := 26) hX (dk DX1_cornered 6 rfl) (by decide) (fun h_ => absurd h_ ((nI_ge (a := 5 - (n + 1)) (b := 5) (by omega) (by omega)))) (fun _ => ?_)
      refine wp_iload_n hX (dk DX1_cornered 7 rfl) rfl ?_
      refine wp_bipush (v := 31) hX (dk DX1_cornered 8 rfl) (by decide) ?_
      refine wp_iand hX (dk DX1_cornered 9 rfl) ?_
      refine wp_if_ne (tgt := 26) hX (dk DX1_cornered 10 rfl) (by decide) (fun h => ?_) (fun h => ?_)
      · refine wp_iconst (v := 1) hX (dk DX1_cornered 17 rfl) (by decide) ?_
        refine wp_istore_n hX (dk DX1_cornered 18 rfl) rfl rfl hN (Nat.le_of_ble_eq_true rfl) ?_
        show WP _ _ _ 28 [_, _, _] [] _
        rw [jup, if_neg h] at e
        exact lp2 4 u (by omega) (by rw [jcor, ← e])
      · refine wp_iload_n hX (dk DX1_cornered 11 rfl) rfl ?_
        refine wp_iconst (v := 5) hX (dk DX1_cornered 12 rfl) (by decide) ?_
        refine wp_ishr hX (dk DX1_cornered 13 rfl) ?_
        refine wp_istore_n hX (dk DX1_cornered 14 rfl) rfl rfl hN (Nat.le_of_ble_eq_true rfl) ?_
        show WP _ _ _ 20 [_, _, _] [] _
        refine wp_iinc hX (dk DX1_cornered 15 rfl) rfl (nI_inc _) rfl hN ?_
        show WP _ _ _ 23 [_, _, _] [] _
        refine wp_goto (tgt := 4) hX (dk DX1_cornered 16 rfl) (by decide) ?_
        -- to 4
        rw [jup, if_pos h] at e
        have := ih _ (by omega) e
        rw [show 5 - n = 5 - (n + 1) + 1 by omega] at this
        exact this
  exact lp1 4 s (by omega) rfl
/-- turned once -/
def jti (s : Int32) (y : Nat) (u : Int32) : Nat → Int32
  | 0 => u
  | x + 1 => if (s >>> ((5 * nI y + nI x) &&& 31)) &&& 1 = 1 then jti s y u x ||| ((1 : Int32) <<< ((5 * nI x + 5 - 1 - nI y) &&& 31)) else jti s y u x
def jto (s : Int32) : Nat → Int32
  | 0 => 0
  | y + 1 => jti s y (jto s y) 5
theorem k_turnedOnce (d : Nat) (s : Int32) (M : mM) : CT d 0 0 iX1_turnedOnce [.int s] M (QR (some (.int (jto s 5))) M) := by
  refine CT.of rfl (Nat.le_of_ble_eq_true rfl) (fun X hX hR hN _ => ?_)
  have hX : Good X RX1 cX1_turnedOnce d 0 0 := hX
  have hN : x_nl X = 4 := hN
  show WP X 0 0 0 [_, _, _, _] [] _
  refine wp_iconst (v := 0) hX (dk DX1_turnedOnce 0 rfl) (by decide) ?_
  refine wp_istore_n hX (dk DX1_turnedOnce 1 rfl) rfl rfl hN (Nat.le_of_ble_eq_true rfl) ?_
  show WP _ _ _ 2 [_, _, _, _] [] _
  have lo : ∀ (n y : Nat) (z : Option Value), y + n = 5 → WP X 0 0 4 [some (.int s), some (.int (jto s y)), some (.int (nI y)), z] [] M := by
    intro n
    induction n with
    | zero =>
      intro y z hy
      obtain rfl : y = 5 := by omega
      refine wp_iload_n hX (dk DX1_turnedOnce 4 rfl) rfl ?_
      refine wp_iconst (v := 5) hX (dk DX1_turnedOnce 5 rfl) (by decide) ?_
      refine wp_icmp_ge (tgt := 55) hX (dk DX1_turnedOnce 6 rfl) (by decide) (fun _ => ?_) (fun h_ => absurd ((by decide)) h_)
      refine wp_iload_n hX (dk DX1_turnedOnce 41 rfl) rfl ?_
      exact wp_ireturn hX hR (dk DX1_turnedOnce 42 rfl) rfl (Nat.le_refl _) (Nat.le_refl _) (⟨rfl, rfl⟩)
    | succ n ih =>
      intro y z hy
      refine wp_iload_n hX (dk DX1_turnedOnce 4 rfl) rfl ?_
      refine wp_iconst (v := 5) hX (dk DX1_turnedOnce 5 rfl) (by decide) ?_
      refine wp_icmp_ge (tgt := 55) hX (dk DX1_turnedOnce 6 rfl) (by decide) (fun h_ => absurd h_ ((nI_ge (a := y) (b := 5) (by omega) (by omega)))) (fun _ => ?_)
      refine wp_iconst (v := 0) hX (dk DX1_turnedOnce 7 rfl) (by decide) ?_
      refine wp_istore_n hX (dk DX1_turnedOnce 8 rfl) rfl rfl hN (Nat.le_of_ble_eq_true rfl) ?_
      show WP _ _ _ 11 [_, _, _, _] [] _
      have li : ∀ (m x : Nat), x + m = 5 → WP X 0 0 11 [some (.int s), some (.int (jti s y (jto s y) x)), some (.int (nI y)), some (.int (nI x))] [] M := by
        intro m
        induction m with
        | zero =>
          intro x hx
          obtain rfl : x = 5 := by omega
          refine wp_iload_n hX (dk DX1_turnedOnce 9 rfl) rfl ?_
          refine wp_iconst (v := 5) hX (dk DX1_turnedOnce 10 rfl) (by decide) ?_
          refine wp_icmp_ge (tgt := 49) hX (dk DX1_turnedOnce 11 rfl) (by decide) (fun _ => ?_) (fun h_ => absurd ((by decide)) h_)
          refine wp_iinc hX (dk DX1_turnedOnce 39 rfl) rfl (nI_inc _) rfl hN ?_
          show WP _ _ _ 52 [_, _, _, _] [] _
          refine wp_goto (tgt := 4) hX (dk DX1_turnedOnce 40 rfl) (by decide) ?_
          -- to 4
          exact ih (y + 1) _ (by omega)
        | succ m ihm =>
          intro x hx
          refine wp_iload_n hX (dk DX1_turnedOnce 9 rfl) rfl ?_
          refine wp_iconst (v := 5) hX (dk DX1_turnedOnce 10 rfl) (by decide) ?_
          refine wp_icmp_ge (tgt := 49) hX (dk DX1_turnedOnce 11 rfl) (by decide) (fun h_ => absurd h_ ((nI_ge (a := x) (b := 5) (by omega) (by omega)))) (fun _ => ?_)
          refine wp_iload_n hX (dk DX1_turnedOnce 12 rfl) rfl ?_
          refine wp_iconst (v := 5) hX (dk DX1_turnedOnce 13 rfl) (by decide) ?_
          refine wp_iload_n hX (dk DX1_turnedOnce 14 rfl) rfl ?_
          refine wp_imul hX (dk DX1_turnedOnce 15 rfl) ?_
          refine wp_iload_n hX (dk DX1_turnedOnce 16 rfl) rfl ?_
          refine wp_iadd hX (dk DX1_turnedOnce 17 rfl) ?_
          refine wp_ishr hX (dk DX1_turnedOnce 18 rfl) ?_
          refine wp_iconst (v := 1) hX (dk DX1_turnedOnce 19 rfl) (by decide) ?_
          refine wp_iand hX (dk DX1_turnedOnce 20 rfl) ?_
          refine wp_iconst (v := 1) hX (dk DX1_turnedOnce 21 rfl) (by decide) ?_
          refine wp_icmp_ne (tgt := 43) hX (dk DX1_turnedOnce 22 rfl) (by decide) (fun h => ?_) (fun h => ?_)
          · refine wp_iinc hX (dk DX1_turnedOnce 37 rfl) rfl (nI_inc _) rfl hN ?_
            show WP _ _ _ 46 [_, _, _, _] [] _
            refine wp_goto (tgt := 11) hX (dk DX1_turnedOnce 38 rfl) (by decide) ?_
            -- to 11
            have := ihm (x + 1) (by omega)
            rw [jti, if_neg h] at this
            exact this
          · refine wp_iload_n hX (dk DX1_turnedOnce 23 rfl) rfl ?_
            refine wp_iconst (v := 1) hX (dk DX1_turnedOnce 24 rfl) (by decide) ?_
            refine wp_iconst (v := 5) hX (dk DX1_turnedOnce 25 rfl) (by decide) ?_
            refine wp_iload_n hX (dk DX1_turnedOnce 26 rfl) rfl ?_
            refine wp_imul hX (dk DX1_turnedOnce 27 rfl) ?_
            refine wp_iconst (v := 5) hX (dk DX1_turnedOnce 28 rfl) (by decide) ?_
            refine wp_iadd hX (dk DX1_turnedOnce 29 rfl) ?_
            refine wp_iconst (v := 1) hX (dk DX1_turnedOnce 30 rfl) (by decide) ?_
            refine wp_isub hX (dk DX1_turnedOnce 31 rfl) ?_
            refine wp_iload_n hX (dk DX1_turnedOnce 32 rfl) rfl ?_
            refine wp_isub hX (dk DX1_turnedOnce 33 rfl) ?_
            refine wp_ishl hX (dk DX1_turnedOnce 34 rfl) ?_
            refine wp_ior hX (dk DX1_turnedOnce 35 rfl) ?_
            refine wp_istore_n hX (dk DX1_turnedOnce 36 rfl) rfl rfl hN (Nat.le_of_ble_eq_true rfl) ?_
            show WP _ _ _ 43 [_, _, _, _] [] _
            refine wp_iinc hX (dk DX1_turnedOnce 37 rfl) rfl (nI_inc _) rfl hN ?_
            show WP _ _ _ 46 [_, _, _, _] [] _
            refine wp_goto (tgt := 11) hX (dk DX1_turnedOnce 38 rfl) (by decide) ?_
            -- to 11
            have := ihm (x + 1) (by omega)
            rw [jti, if_pos h] at this
            exact this
      exact li 5 0 rfl
  refine wp_iconst (v := 0) hX (dk DX1_turnedOnce 2 rfl) (by decide) ?_
  refine wp_istore_n hX (dk DX1_turnedOnce 3 rfl) rfl rfl hN (Nat.le_of_ble_eq_true rfl) ?_
  show WP _ _ _ 4 [_, _, _, _] [] _
  exact lo 5 0 none rfl
