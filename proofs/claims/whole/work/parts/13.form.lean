/-! FORM: walks. Each method's end is told by a function of Lean that does the same steps -/
theorem nI_inc (a : Nat) : nI a + Int32.ofInt 1 = nI (a + 1) := nI_1 a
/-- Integer.bitCount -/
def jpc (x : Int32) : Int32 :=
  let a := x - ((x.toUInt32 >>> ((1 : Int32).toUInt32 &&& Int32.toUInt32 31)).toInt32 &&& 1431655765)
  let b := (a &&& 858993459) + ((a.toUInt32 >>> ((2 : Int32).toUInt32 &&& Int32.toUInt32 31)).toInt32 &&& 858993459)
  let c := (b + (b.toUInt32 >>> ((4 : Int32).toUInt32 &&& Int32.toUInt32 31)).toInt32) &&& 252645135
  let e := c + (c.toUInt32 >>> ((8 : Int32).toUInt32 &&& Int32.toUInt32 31)).toInt32
  let f := e + (e.toUInt32 >>> ((16 : Int32).toUInt32 &&& Int32.toUInt32 31)).toInt32
  f &&& 63
theorem k_bitCount (d : Nat) (x : Int32) (M : mM) : CT d 0 0 iJ6_bitCount_0f7a4 [.int x] M (QR (some (.int (jpc x))) M) := by
  refine CT.of rfl (Nat.le_of_ble_eq_true rfl) (fun X hX hR hN _ => ?_)
  have hX : Good X RJ6 cJ6_bitCount_0f7a4 d 0 0 := hX
  have hN : x_nl X = 1 := hN
  show WP X 0 0 0 [_] [] _
  refine wp_iload_n hX (dk DJ6_bitCount_0f7a4 0 rfl) rfl ?_
  refine wp_iload_n hX (dk DJ6_bitCount_0f7a4 1 rfl) rfl ?_
  refine wp_iconst (v := 1) hX (dk DJ6_bitCount_0f7a4 2 rfl) (by decide) ?_
  refine wp_iushr hX (dk DJ6_bitCount_0f7a4 3 rfl) ?_
  refine wp_ldcw hX (dk DJ6_bitCount_0f7a4 4 rfl) kcJ6_265 ?_
  refine wp_iand hX (dk DJ6_bitCount_0f7a4 5 rfl) ?_
  refine wp_isub hX (dk DJ6_bitCount_0f7a4 6 rfl) ?_
  refine wp_istore_n hX (dk DJ6_bitCount_0f7a4 7 rfl) rfl rfl hN (Nat.le_of_ble_eq_true rfl) ?_
  show WP _ _ _ 10 [_] [] _
  refine wp_iload_n hX (dk DJ6_bitCount_0f7a4 8 rfl) rfl ?_
  refine wp_ldcw hX (dk DJ6_bitCount_0f7a4 9 rfl) kcJ6_266 ?_
  refine wp_iand hX (dk DJ6_bitCount_0f7a4 10 rfl) ?_
  refine wp_iload_n hX (dk DJ6_bitCount_0f7a4 11 rfl) rfl ?_
  refine wp_iconst (v := 2) hX (dk DJ6_bitCount_0f7a4 12 rfl) (by decide) ?_
  refine wp_iushr hX (dk DJ6_bitCount_0f7a4 13 rfl) ?_
  refine wp_ldcw hX (dk DJ6_bitCount_0f7a4 14 rfl) kcJ6_266 ?_
  refine wp_iand hX (dk DJ6_bitCount_0f7a4 15 rfl) ?_
  refine wp_iadd hX (dk DJ6_bitCount_0f7a4 16 rfl) ?_
  refine wp_istore_n hX (dk DJ6_bitCount_0f7a4 17 rfl) rfl rfl hN (Nat.le_of_ble_eq_true rfl) ?_
  show WP _ _ _ 24 [_] [] _
  refine wp_iload_n hX (dk DJ6_bitCount_0f7a4 18 rfl) rfl ?_
  refine wp_iload_n hX (dk DJ6_bitCount_0f7a4 19 rfl) rfl ?_
  refine wp_iconst (v := 4) hX (dk DJ6_bitCount_0f7a4 20 rfl) (by decide) ?_
  refine wp_iushr hX (dk DJ6_bitCount_0f7a4 21 rfl) ?_
  refine wp_iadd hX (dk DJ6_bitCount_0f7a4 22 rfl) ?_
  refine wp_ldcw hX (dk DJ6_bitCount_0f7a4 23 rfl) kcJ6_267 ?_
  refine wp_iand hX (dk DJ6_bitCount_0f7a4 24 rfl) ?_
  refine wp_istore_n hX (dk DJ6_bitCount_0f7a4 25 rfl) rfl rfl hN (Nat.le_of_ble_eq_true rfl) ?_
  show WP _ _ _ 34 [_] [] _
  refine wp_iload_n hX (dk DJ6_bitCount_0f7a4 26 rfl) rfl ?_
  refine wp_iload_n hX (dk DJ6_bitCount_0f7a4 27 rfl) rfl ?_
  refine wp_bipush (v := 8) hX (dk DJ6_bitCount_0f7a4 28 rfl) (by decide) ?_
  refine wp_iushr hX (dk DJ6_bitCount_0f7a4 29 rfl) ?_
  refine wp_iadd hX (dk DJ6_bitCount_0f7a4 30 rfl) ?_
  refine wp_istore_n hX (dk DJ6_bitCount_0f7a4 31 rfl) rfl rfl hN (Nat.le_of_ble_eq_true rfl) ?_
  show WP _ _ _ 41 [_] [] _
  refine wp_iload_n hX (dk DJ6_bitCount_0f7a4 32 rfl) rfl ?_
  refine wp_iload_n hX (dk DJ6_bitCount_0f7a4 33 rfl) rfl ?_
  refine wp_bipush (v := 16) hX (dk DJ6_bitCount_0f7a4 34 rfl) (by decide) ?_
  refine wp_iushr hX (dk DJ6_bitCount_0f7a4 35 rfl) ?_
  refine wp_iadd hX (dk DJ6_bitCount_0f7a4 36 rfl) ?_
  refine wp_istore_n hX (dk DJ6_bitCount_0f7a4 37 rfl) rfl rfl hN (Nat.le_of_ble_eq_true rfl) ?_
  show WP _ _ _ 48 [_] [] _
  refine wp_iload_n hX (dk DJ6_bitCount_0f7a4 38 rfl) rfl ?_
  refine wp_bipush (v := 63) hX (dk DJ6_bitCount_0f7a4 39 rfl) (by decide) ?_
  refine wp_iand hX (dk DJ6_bitCount_0f7a4 40 rfl) ?_
  exact wp_ireturn hX hR (dk DJ6_bitCount_0f7a4 41 rfl) rfl (Nat.le_refl _) (Nat.le_refl _) (⟨rfl, rfl⟩)
/-- holds(set, figure) -/
def jbit (s i : Int32) : Int32 := if (s >>> (i &&& 31)) &&& 1 = 1 then 1 else 0
theorem k_holds (d : Nat) (s i : Int32) (M : mM) : CT d 0 0 iX10_holds [.int s, .int i] M (QR (some (.int (jbit s i))) M) := by
  refine CT.of rfl (Nat.le_of_ble_eq_true rfl) (fun X hX hR hN _ => ?_)
  have hX : Good X RX10 cX10_holds d 0 0 := hX
  have hN : x_nl X = 2 := hN
  show WP X 0 0 0 [_, _] [] _
  refine wp_iload_n hX (dk DX10_holds 0 rfl) rfl ?_
  refine wp_iload_n hX (dk DX10_holds 1 rfl) rfl ?_
  refine wp_ishr hX (dk DX10_holds 2 rfl) ?_
  refine wp_iconst (v := 1) hX (dk DX10_holds 3 rfl) (by decide) ?_
  refine wp_iand hX (dk DX10_holds 4 rfl) ?_
  refine wp_iconst (v := 1) hX (dk DX10_holds 5 rfl) (by decide) ?_
  refine wp_icmp_ne (tgt := 13) hX (dk DX10_holds 6 rfl) (by decide) (fun h => ?_) (fun h => ?_)
  · refine wp_iconst (v := 0) hX (dk DX10_holds 9 rfl) (by decide) ?_
    exact wp_ireturn hX hR (dk DX10_holds 10 rfl) rfl (Nat.le_refl _) (Nat.le_refl _) (⟨by rw [jbit, if_neg h], rfl⟩)
  · refine wp_iconst (v := 1) hX (dk DX10_holds 7 rfl) (by decide) ?_
    refine wp_goto (tgt := 14) hX (dk DX10_holds 8 rfl) (by decide) ?_
    -- to 14
    exact wp_ireturn hX hR (dk DX10_holds 10 rfl) rfl (Nat.le_refl _) (Nat.le_refl _) (⟨by rw [jbit, if_pos h], rfl⟩)
/-- wide -/
def jwide (s : Int32) : Nat → Int32
  | 0 => 1
  | k + 1 => if s &&& ((1082401 : Int32) <<< (nI (k + 1) &&& 31)) = 0 then jwide s k else nI (k + 1) + 1
theorem k_wide (d : Nat) (s : Int32) (M : mM) : CT d 0 0 iX1_wide [.int s] M (QR (some (.int (jwide s 4))) M) := by
  refine CT.of rfl (Nat.le_of_ble_eq_true rfl) (fun X hX hR hN _ => ?_)
  have hX : Good X RX1 cX1_wide d 0 0 := hX
  have hN : x_nl X = 3 := hN
  show WP X 0 0 0 [_, _, _] [] _
  refine wp_iconst (v := 1) hX (dk DX1_wide 0 rfl) (by decide) ?_
  refine wp_istore_n hX (dk DX1_wide 1 rfl) rfl rfl hN (Nat.le_of_ble_eq_true rfl) ?_
  show WP _ _ _ 2 [_, _, _] [] _
  refine wp_iconst (v := 1) hX (dk DX1_wide 2 rfl) (by decide) ?_
  refine wp_istore_n hX (dk DX1_wide 3 rfl) rfl rfl hN (Nat.le_of_ble_eq_true rfl) ?_
  show WP _ _ _ 4 [_, _, _] [] _
  have loop : ∀ (n k : Nat), k + n = 4 → WP X 0 0 4 [some (.int s), some (.int (jwide s k)), some (.int (nI (k + 1)))] [] M := by
    intro n
    induction n with
    | zero =>
      intro k hk
      obtain rfl : k = 4 := by omega
      refine wp_iload_n hX (dk DX1_wide 4 rfl) rfl ?_
      refine wp_iconst (v := 5) hX (dk DX1_wide 5 rfl) (by decide) ?_
      refine wp_icmp_ge (tgt := 28) hX (dk DX1_wide 6 rfl) (by decide) (fun _ => ?_) (fun h_ => absurd ((by decide)) h_)
      refine wp_iload_n hX (dk DX1_wide 19 rfl) rfl ?_
      exact wp_ireturn hX hR (dk DX1_wide 20 rfl) rfl (Nat.le_refl _) (Nat.le_refl _) (⟨rfl, rfl⟩)
    | succ n ih =>
      intro k hk
      refine wp_iload_n hX (dk DX1_wide 4 rfl) rfl ?_
      refine wp_iconst (v := 5) hX (dk DX1_wide 5 rfl) (by decide) ?_
      refine wp_icmp_ge (tgt := 28) hX (dk DX1_wide 6 rfl) (by decide) (fun h_ => absurd h_ ((nI_ge (a := k + 1) (b := 5) (by omega) (by omega)))) (fun _ => ?_)
      refine wp_iload_n hX (dk DX1_wide 7 rfl) rfl ?_
      refine wp_ldc hX (dk DX1_wide 8 rfl) kcX1_55 ?_
      refine wp_iload_n hX (dk DX1_wide 9 rfl) rfl ?_
      refine wp_ishl hX (dk DX1_wide 10 rfl) ?_
      refine wp_iand hX (dk DX1_wide 11 rfl) ?_
      refine wp_if_eq (tgt := 22) hX (dk DX1_wide 12 rfl) (by decide) (fun h => ?_) (fun h => ?_)
      · refine wp_iinc hX (dk DX1_wide 17 rfl) rfl (nI_inc _) rfl hN ?_
        show WP _ _ _ 25 [_, _, _] [] _
        refine wp_goto (tgt := 4) hX (dk DX1_wide 18 rfl) (by decide) ?_
        -- to 4
        have := ih (k + 1) (by omega)
        rw [jwide, if_pos h] at this
        exact this
      · refine wp_iload_n hX (dk DX1_wide 13 rfl) rfl ?_
        refine wp_iconst (v := 1) hX (dk DX1_wide 14 rfl) (by decide) ?_
        refine wp_iadd hX (dk DX1_wide 15 rfl) ?_
        refine wp_istore_n hX (dk DX1_wide 16 rfl) rfl rfl hN (Nat.le_of_ble_eq_true rfl) ?_
        show WP _ _ _ 22 [_, _, _] [] _
        refine wp_iinc hX (dk DX1_wide 17 rfl) rfl (nI_inc _) rfl hN ?_
        show WP _ _ _ 25 [_, _, _] [] _
        refine wp_goto (tgt := 4) hX (dk DX1_wide 18 rfl) (by decide) ?_
        -- to 4
        have := ih (k + 1) (by omega)
        rw [jwide, if_neg h] at this
        exact this
  exact loop 4 0 rfl
/-- the first place within x: k places are left to look at, from j on -/
def jfirst (p : Nat → Int32) (x : Int32) : Nat → Nat → Int32
  | 0, _ => -2
  | k + 1, j => if p j &&& (x ^^^ (-1)) = 0 then nI j else jfirst p x k (j + 1)
/-- a Form's cells -/
def isF (a : Nat) : Prop := kd0 a = 1 ∧ (∀ sw, rf0 sw a 0 = some (a + 1) ∧ rf0 sw a 1 = some (a + 2) ∧ rf0 sw a 2 = some (a + 3)) ∧ kd0 (a + 1) = 12 ∧ kd0 (a + 2) = 12 ∧ kd0 (a + 3) = 12 ∧ ln0 (a + 1) = 4 ∧ ln0 (a + 2) = 100 ∧ ln0 (a + 3) = 100
theorem k_firstPlace (d : Nat) (sw : Bool) (f : Nat → Nat → Int32) (g : Nat → Nat → Int64) (a k : Nat) (x : Int32) (ha : isF a) (hp : f a 5 = nI k) (hk : k ≤ 100) : CT d 0 0 iX1_firstPlace [.ref a, .int x] (S sw f g) (QR (some (.int (jfirst (f (a + 2)) x k 0))) (S sw f g)) := by
  refine CT.of rfl (Nat.le_of_ble_eq_true rfl) (fun X hX hR hN _ => ?_)
  have hX : Good X RX1 cX1_firstPlace d 0 0 := hX
  have hN : x_nl X = 3 := hN
  show WP X 0 0 0 [_, _, _] [] _
  refine wp_iconst (v := 0) hX (dk DX1_firstPlace 0 rfl) (by decide) ?_
  refine wp_istore_n hX (dk DX1_firstPlace 1 rfl) rfl rfl hN (Nat.le_of_ble_eq_true rfl) ?_
  show WP _ _ _ 2 [_, _, _] [] _
  have loop : ∀ (n j : Nat), j + n = k → WP X 0 0 2 [some (.ref a), some (.int x), some (.int (nI j))] [] (S sw f g) ∨ jfirst (f (a + 2)) x k 0 ≠ jfirst (f (a + 2)) x n j := by
    intro n
    induction n with
    | zero =>
      intro j hj
      by_cases e : jfirst (f (a + 2)) x k 0 = jfirst (f (a + 2)) x 0 j
      · left
        refine wp_iload_n hX (dk DX1_firstPlace 2 rfl) rfl ?_
        refine wp_aload_n hX (dk DX1_firstPlace 3 rfl) rfl ?_
        refine w_geti hX flX1_34 (dk DX1_firstPlace 4 rfl) (by decide) ha.1 ?_
        refine wp_icmp_ge (tgt := 31) hX (dk DX1_firstPlace 5 rfl) (by decide) (fun _ => ?_) (fun h_ => absurd ((by rw [hp]; exact nI_le (by omega) (by omega))) h_)
        refine wp_bipush (v := -2) hX (dk DX1_firstPlace 19 rfl) (by decide) ?_
        exact wp_ireturn hX hR (dk DX1_firstPlace 20 rfl) rfl (Nat.le_refl _) (Nat.le_refl _) (⟨by rw [e]; rfl, rfl⟩)
      · exact Or.inr e
    | succ n ih =>
      intro j hj
      by_cases e : jfirst (f (a + 2)) x k 0 = jfirst (f (a + 2)) x (n + 1) j
      · left
        refine wp_iload_n hX (dk DX1_firstPlace 2 rfl) rfl ?_
        refine wp_aload_n hX (dk DX1_firstPlace 3 rfl) rfl ?_
        refine w_geti hX flX1_34 (dk DX1_firstPlace 4 rfl) (by decide) ha.1 ?_
        refine wp_icmp_ge (tgt := 31) hX (dk DX1_firstPlace 5 rfl) (by decide) (fun h_ => absurd h_ ((by rw [hp]; exact nI_ge (by omega) (by omega)))) (fun _ => ?_)
        refine wp_aload_n hX (dk DX1_firstPlace 6 rfl) rfl ?_
        refine w_getr hX flX1_15 (dk DX1_firstPlace 7 rfl) ha.1 (ha.2.1 sw).2.1 ?_
        refine wp_iload_n hX (dk DX1_firstPlace 8 rfl) rfl ?_
        refine w_iald (j := _) hX (dk DX1_firstPlace 9 rfl) ha.2.2.2.1 rfl (by rw [ha.2.2.2.2.2.2.1]; omega) ?_
        refine wp_iload_n hX (dk DX1_firstPlace 10 rfl) rfl ?_
        refine wp_iconst (v := -1) hX (dk DX1_firstPlace 11 rfl) (by decide) ?_
        refine wp_ixor hX (dk DX1_firstPlace 12 rfl) ?_
        refine wp_iand hX (dk DX1_firstPlace 13 rfl) ?_
        refine wp_if_ne (tgt := 25) hX (dk DX1_firstPlace 14 rfl) (by decide) (fun h => ?_) (fun h => ?_)
        · refine wp_iinc hX (dk DX1_firstPlace 17 rfl) rfl (nI_inc _) rfl hN ?_
          show WP _ _ _ 28 [_, _, _] [] _
          refine wp_goto (tgt := 2) hX (dk DX1_firstPlace 18 rfl) (by decide) ?_
          -- to 2
          rw [jfirst, if_neg h] at e
          exact (ih (j + 1) (by omega)).resolve_right (fun q => q e)
        · refine wp_iload_n hX (dk DX1_firstPlace 15 rfl) rfl ?_
          rw [jfirst, if_pos h] at e
          exact wp_ireturn hX hR (dk DX1_firstPlace 16 rfl) rfl (Nat.le_refl _) (Nat.le_refl _) (⟨by rw [e], rfl⟩)
      · exact Or.inr e
  exact (loop k 0 (by omega)).resolve_right (fun q => q rfl)
