/-! STOCK -/
/-- forms of the stock -/
theorem isF_st : ∀ i, i < 10 → isF (6 + 4 * i) := by
  intro i hi
  have h : ∀ i, i < 10 → (kd0 (6 + 4 * i) = 1 ∧ (rf0 true (6 + 4 * i) 0 = some (6 + 4 * i + 1) ∧ rf0 true (6 + 4 * i) 1 = some (6 + 4 * i + 2) ∧ rf0 true (6 + 4 * i) 2 = some (6 + 4 * i + 3)) ∧ (rf0 false (6 + 4 * i) 0 = some (6 + 4 * i + 1) ∧ rf0 false (6 + 4 * i) 1 = some (6 + 4 * i + 2) ∧ rf0 false (6 + 4 * i) 2 = some (6 + 4 * i + 3)) ∧ kd0 (6 + 4 * i + 1) = 12 ∧ kd0 (6 + 4 * i + 2) = 12 ∧ kd0 (6 + 4 * i + 3) = 12 ∧ ln0 (6 + 4 * i + 1) = 4 ∧ ln0 (6 + 4 * i + 2) = 100 ∧ ln0 (6 + 4 * i + 3) = 100) := by decide +kernel
  obtain ⟨h1, h2, h3, h4⟩ := h i hi
  exact ⟨h1, fun sw => by cases sw <;> assumption, h4⟩
theorem isF_gu : isF 77 := ⟨rfl, fun sw => by cases sw <;> exact ⟨rfl, rfl, rfl⟩, rfl, rfl, rfl, rfl, rfl, rfl⟩
theorem rf_form (sw : Bool) : ∀ i, i < 10 → rf0 sw 2 i = some (6 + 4 * i) := by cases sw <;> decide +kernel
/-- n figures of shapes sh, and their Forms -/
def stF (f : Nat → Nat → Int32) (n : Nat) (sh : Nat → Int32) : Prop := f 1 4 = nI n ∧ n ≤ 10 ∧ ∀ i, i < n → fOk f (6 + 4 * i) (sh i)
/-- the set of those i < n of which q holds -/
def jbs (q : Nat → Int32) : Nat → Int32
  | 0 => 0
  | k + 1 => if q k = 0 then jbs q k else jbs q k ||| ((1 : Int32) <<< (nI k &&& 31))
theorem k_came (d : Nat) (sw : Bool) (f : Nat → Nat → Int32) (g : Nat → Nat → Int64) : CT d 0 0 iX5_came [.ref 1] (S sw f g) (QR (some (.int (f 1 4))) (S sw f g)) := by
  refine CT.of rfl (Nat.le_of_ble_eq_true rfl) (fun X hX hR hN _ => ?_)
  have hX : Good X RX5 cX5_came d 0 0 := hX
  have hN : x_nl X = 1 := hN
  show WP X 0 0 0 [_] [] _
  refine wp_aload_n hX (dk DX5_came 0 rfl) rfl ?_
  refine w_geti hX flX5_28 (dk DX5_came 1 rfl) (by decide) rfl ?_
  exact wp_ireturn hX hR (dk DX5_came 2 rfl) rfl (Nat.le_refl _) (Nat.le_refl _) (⟨rfl, rfl⟩)
/-- 0 ≤ x < n -/
def jin (x n : Int32) : Int32 := if ¬ x < 0 ∧ x < n then 1 else 0
theorem k_has (d : Nat) (sw : Bool) (f : Nat → Nat → Int32) (g : Nat → Nat → Int64) (x : Int32) : CT d 0 0 iX5_has [.ref 1, .int x] (S sw f g) (QR (some (.int (jin x (f 1 4)))) (S sw f g)) := by
  refine CT.of rfl (Nat.le_of_ble_eq_true rfl) (fun X hX hR hN _ => ?_)
  have hX : Good X RX5 cX5_has d 0 0 := hX
  have hN : x_nl X = 2 := hN
  show WP X 0 0 0 [_, _] [] _
  refine wp_iload_n hX (dk DX5_has 0 rfl) rfl ?_
  refine wp_if_lt (tgt := 16) hX (dk DX5_has 1 rfl) (by decide) (fun h => ?_) (fun h => ?_)
  · refine wp_iconst (v := 0) hX (dk DX5_has 8 rfl) (by decide) ?_
    exact wp_ireturn hX hR (dk DX5_has 9 rfl) rfl (Nat.le_refl _) (Nat.le_refl _) (⟨by rw [jin, if_neg (fun q => q.1 h)], rfl⟩)
  · refine wp_iload_n hX (dk DX5_has 2 rfl) rfl ?_
    refine wp_aload_n hX (dk DX5_has 3 rfl) rfl ?_
    refine w_geti hX flX5_28 (dk DX5_has 4 rfl) (by decide) rfl ?_
    refine wp_icmp_ge (tgt := 16) hX (dk DX5_has 5 rfl) (by decide) (fun h2 => ?_) (fun h2 => ?_)
    · refine wp_iconst (v := 0) hX (dk DX5_has 8 rfl) (by decide) ?_
      exact wp_ireturn hX hR (dk DX5_has 9 rfl) rfl (Nat.le_refl _) (Nat.le_refl _) (⟨by rw [jin, if_neg (fun q => Int32.not_lt.mpr h2 q.2)], rfl⟩)
    · refine wp_iconst (v := 1) hX (dk DX5_has 6 rfl) (by decide) ?_
      refine wp_goto (tgt := 17) hX (dk DX5_has 7 rfl) (by decide) ?_
      -- to 17
      exact wp_ireturn hX hR (dk DX5_has 9 rfl) rfl (Nat.le_refl _) (Nat.le_refl _) (⟨by rw [jin, if_pos ⟨h, Int32.not_le.mp h2⟩], rfl⟩)
def jall (n : Int32) : Int32 := ((1 : Int32) <<< (n &&& 31)) - 1
theorem k_all (d : Nat) (sw : Bool) (f : Nat → Nat → Int32) (g : Nat → Nat → Int64) : CT d 0 0 iX5_all [.ref 1] (S sw f g) (QR (some (.int (jall (f 1 4)))) (S sw f g)) := by
  refine CT.of rfl (Nat.le_of_ble_eq_true rfl) (fun X hX hR hN _ => ?_)
  have hX : Good X RX5 cX5_all d 0 0 := hX
  have hN : x_nl X = 1 := hN
  show WP X 0 0 0 [_] [] _
  refine wp_iconst (v := 1) hX (dk DX5_all 0 rfl) (by decide) ?_
  refine wp_aload_n hX (dk DX5_all 1 rfl) rfl ?_
  refine w_geti hX flX5_28 (dk DX5_all 2 rfl) (by decide) rfl ?_
  refine wp_ishl hX (dk DX5_all 3 rfl) ?_
  refine wp_iconst (v := 1) hX (dk DX5_all 4 rfl) (by decide) ?_
  refine wp_isub hX (dk DX5_all 5 rfl) ?_
  exact wp_ireturn hX hR (dk DX5_all 6 rfl) rfl (Nat.le_refl _) (Nat.le_refl _) (⟨rfl, rfl⟩)
theorem k_formOf (d : Nat) (sw : Bool) (f : Nat → Nat → Int32) (g : Nat → Nat → Int64) (i : Nat) (hi : i < 10) : CT d 0 0 iX5_formOf [.ref 1, .int (nI i)] (S sw f g) (QR (some (.ref (6 + 4 * i))) (S sw f g)) := by
  refine CT.of rfl (Nat.le_of_ble_eq_true rfl) (fun X hX hR hN _ => ?_)
  have hX : Good X RX5 cX5_formOf d 0 0 := hX
  have hN : x_nl X = 2 := hN
  show WP X 0 0 0 [_, _] [] _
  refine wp_aload_n hX (dk DX5_formOf 0 rfl) rfl ?_
  refine w_getr hX flX5_11 (dk DX5_formOf 1 rfl) rfl rfl ?_
  refine wp_iload_n hX (dk DX5_formOf 2 rfl) rfl ?_
  refine w_aald (j := _) hX (dk DX5_formOf 3 rfl) rfl rfl (show _ < 10 by omega) (rf_form sw i hi) ?_
  exact wp_areturn hX hR (dk DX5_formOf 4 rfl) (Or.inl ⟨_, rfl⟩) (Nat.le_refl _) (Nat.le_refl _) (⟨rfl, rfl⟩)
theorem ix3 (a b : Nat) : nI a * 3 + nI b = nI (a * 3 + b) := by rw [show (3 : Int32) = nI 3 from rfl, pk_mul, nI_add]
theorem k_traitOf (d : Nat) (sw : Bool) (f : Nat → Nat → Int32) (g : Nat → Nat → Int64) (i w : Nat) (hi : i < 10) (hw : w < 3) : CT d 0 0 iX5_traitOf [.ref 1, .int (nI i), .int (nI w)] (S sw f g) (QR (some (.int (f 3 (i * 3 + w)))) (S sw f g)) := by
  refine CT.of rfl (Nat.le_of_ble_eq_true rfl) (fun X hX hR hN _ => ?_)
  have hX : Good X RX5 cX5_traitOf d 0 0 := hX
  have hN : x_nl X = 3 := hN
  show WP X 0 0 0 [_, _, _] [] _
  refine wp_aload_n hX (dk DX5_traitOf 0 rfl) rfl ?_
  refine w_getr hX flX5_17 (dk DX5_traitOf 1 rfl) rfl rfl ?_
  refine wp_iload_n hX (dk DX5_traitOf 2 rfl) rfl ?_
  refine wp_iconst (v := 3) hX (dk DX5_traitOf 3 rfl) (by decide) ?_
  refine wp_imul hX (dk DX5_traitOf 4 rfl) ?_
  refine wp_iload_n hX (dk DX5_traitOf 5 rfl) rfl ?_
  refine wp_iadd hX (dk DX5_traitOf 6 rfl) ?_
  refine w_iald (j := (i * 3 + w)) hX (dk DX5_traitOf 7 rfl) rfl (ix3 i w) (show _ < 30 by omega) ?_
  exact wp_ireturn hX hR (dk DX5_traitOf 8 rfl) rfl (Nat.le_refl _) (Nat.le_refl _) (⟨rfl, rfl⟩)
theorem k_setTrait (d : Nat) (sw : Bool) (f : Nat → Nat → Int32) (g : Nat → Nat → Int64) (i w : Nat) (v : Int32) (hi : i < 10) (hw : w < 3) : CT d 0 0 iX5_setTrait [.ref 1, .int (nI i), .int (nI w), .int v] (S sw f g) (QR none (S sw (u2 f 3 (i * 3 + w) v) g)) := by
  refine CT.of rfl (Nat.le_of_ble_eq_true rfl) (fun X hX hR hN _ => ?_)
  have hX : Good X RX5 cX5_setTrait d 0 0 := hX
  have hN : x_nl X = 4 := hN
  show WP X 0 0 0 [_, _, _, _] [] _
  refine wp_aload_n hX (dk DX5_setTrait 0 rfl) rfl ?_
  refine w_getr hX flX5_17 (dk DX5_setTrait 1 rfl) rfl rfl ?_
  refine wp_iload_n hX (dk DX5_setTrait 2 rfl) rfl ?_
  refine wp_iconst (v := 3) hX (dk DX5_setTrait 3 rfl) (by decide) ?_
  refine wp_imul hX (dk DX5_setTrait 4 rfl) ?_
  refine wp_iload_n hX (dk DX5_setTrait 5 rfl) rfl ?_
  refine wp_iadd hX (dk DX5_setTrait 6 rfl) ?_
  refine wp_iload_n hX (dk DX5_setTrait 7 rfl) rfl ?_
  refine w_iast (j := (i * 3 + w)) hX (dk DX5_setTrait 8 rfl) rfl (ix3 i w) (show _ < 30 by omega) ?_
  exact wp_return hX hR (dk DX5_setTrait 9 rfl) (Nat.le_refl _) (Nat.le_refl _) (⟨rfl, rfl⟩)
theorem k_outOf (d : Nat) (sw : Bool) (f : Nat → Nat → Int32) (g : Nat → Nat → Int64) (i : Nat) (hi : i < 10) : CT d 0 0 iX5_outOf [.ref 1, .int (nI i)] (S sw f g) (QR (some (.int (f 4 i))) (S sw f g)) := by
  refine CT.of rfl (Nat.le_of_ble_eq_true rfl) (fun X hX hR hN _ => ?_)
  have hX : Good X RX5 cX5_outOf d 0 0 := hX
  have hN : x_nl X = 2 := hN
  show WP X 0 0 0 [_, _] [] _
  refine wp_aload_n hX (dk DX5_outOf 0 rfl) rfl ?_
  refine w_getr hX flX5_21 (dk DX5_outOf 1 rfl) rfl rfl ?_
  refine wp_iload_n hX (dk DX5_outOf 2 rfl) rfl ?_
  refine w_iald (j := _) hX (dk DX5_outOf 3 rfl) rfl rfl (show _ < 10 by omega) ?_
  exact wp_ireturn hX hR (dk DX5_outOf 4 rfl) rfl (Nat.le_refl _) (Nat.le_refl _) (⟨rfl, rfl⟩)
theorem k_bySize (d : Nat) (sw : Bool) (f : Nat → Nat → Int32) (g : Nat → Nat → Int64) (i : Nat) (hi : i < 10) : CT d 0 0 iX5_bySize [.ref 1, .int (nI i)] (S sw f g) (QR (some (.int (f 5 i))) (S sw f g)) := by
  refine CT.of rfl (Nat.le_of_ble_eq_true rfl) (fun X hX hR hN _ => ?_)
  have hX : Good X RX5 cX5_bySize d 0 0 := hX
  have hN : x_nl X = 2 := hN
  show WP X 0 0 0 [_, _] [] _
  refine wp_aload_n hX (dk DX5_bySize 0 rfl) rfl ?_
  refine w_getr hX flX5_24 (dk DX5_bySize 1 rfl) rfl rfl ?_
  refine wp_iload_n hX (dk DX5_bySize 2 rfl) rfl ?_
  refine w_iald (j := _) hX (dk DX5_bySize 3 rfl) rfl rfl (show _ < 10 by omega) ?_
  exact wp_ireturn hX hR (dk DX5_bySize 4 rfl) rfl (Nat.le_refl _) (Nat.le_refl _) (⟨rfl, rfl⟩)
theorem k_cuttableOf (d : Nat) (sw : Bool) (f : Nat → Nat → Int32) (g : Nat → Nat → Int64) (n : Nat) (sh : Nat → Int32) (x : Int32) (hst : stF f n sh) : CT (d + 2) 0 0 iX5_cuttableOf [.ref 1, .int x] (S sw f g) (QR (some (.int (jbs (fun i => jct (sh i) x) n))) (S sw f g)) := by
  obtain ⟨hn, hn10, hok⟩ := hst
  refine CT.of rfl (Nat.le_of_ble_eq_true rfl) (fun X hX hR hN _ => ?_)
  have hX : Good X RX5 cX5_cuttableOf (d + 2) 0 0 := hX
  have hN : x_nl X = 4 := hN
  show WP X 0 0 0 [_, _, _, _] [] _
  refine wp_iconst (v := 0) hX (dk DX5_cuttableOf 0 rfl) (by decide) ?_
  refine wp_istore_n hX (dk DX5_cuttableOf 1 rfl) rfl rfl hN (Nat.le_of_ble_eq_true rfl) ?_
  show WP _ _ _ 2 [_, _, _, _] [] _
  refine wp_iconst (v := 0) hX (dk DX5_cuttableOf 2 rfl) (by decide) ?_
  refine wp_istore_n hX (dk DX5_cuttableOf 3 rfl) rfl rfl hN (Nat.le_of_ble_eq_true rfl) ?_
  show WP _ _ _ 4 [_, _, _, _] [] _
  have lo : ∀ (m i : Nat), i + m = n → WP X 0 0 4 [some (.ref 1), some (.int x), some (.int (jbs (fun i => jct (sh i) x) i)), some (.int (nI i))] [] (S sw f g) := by
    intro m
    induction m with
    | zero =>
      intro i hi
      obtain rfl : i = n := by omega
      refine wp_iload_n hX (dk DX5_cuttableOf 4 rfl) rfl ?_
      refine wp_aload_n hX (dk DX5_cuttableOf 5 rfl) rfl ?_
      refine w_geti hX flX5_28 (dk DX5_cuttableOf 6 rfl) (by decide) rfl ?_
      refine wp_icmp_ge (tgt := 37) hX (dk DX5_cuttableOf 7 rfl) (by decide) (fun _ => ?_) (fun h_ => absurd ((by rw [hn]; exact nI_le (by omega) (by omega))) h_)
      refine wp_iload_n hX (dk DX5_cuttableOf 23 rfl) rfl ?_
      exact wp_ireturn hX hR (dk DX5_cuttableOf 24 rfl) rfl (Nat.le_refl _) (Nat.le_refl _) (⟨rfl, rfl⟩)
    | succ m ih =>
      intro i hi
      refine wp_iload_n hX (dk DX5_cuttableOf 4 rfl) rfl ?_
      refine wp_aload_n hX (dk DX5_cuttableOf 5 rfl) rfl ?_
      refine w_geti hX flX5_28 (dk DX5_cuttableOf 6 rfl) (by decide) rfl ?_
      refine wp_icmp_ge (tgt := 37) hX (dk DX5_cuttableOf 7 rfl) (by decide) (fun h_ => absurd h_ ((by rw [hn]; exact nI_ge (by omega) (by omega)))) (fun _ => ?_)
      refine wp_aload_n hX (dk DX5_cuttableOf 8 rfl) rfl ?_
      refine w_getr hX flX5_11 (dk DX5_cuttableOf 9 rfl) rfl rfl ?_
      refine wp_iload_n hX (dk DX5_cuttableOf 10 rfl) rfl ?_
      refine w_aald (j := _) hX (dk DX5_cuttableOf 11 rfl) rfl rfl (show _ < 10 by omega) (rf_form sw i (by omega)) ?_
      refine wp_iload_n hX (dk DX5_cuttableOf 12 rfl) rfl ?_
      refine w_callV (As := [_]) lkX5_46 hX (dk DX5_cuttableOf 13 rfl) (isF_st i (by omega)).1 rfl (by decide) hN (k_can d sw f g (6 + 4 * i) (sh i) x (isF_st i (by omega)) (hok i (by omega))) ?_
      show WP _ _ _ 22 [_, _, _, _] [_] _
      refine wp_if_eq (tgt := 31) hX (dk DX5_cuttableOf 14 rfl) (by decide) (fun h => ?_) (fun h => ?_)
      · refine wp_iinc hX (dk DX5_cuttableOf 21 rfl) rfl (nI_inc _) rfl hN ?_
        show WP _ _ _ 34 [_, _, _, _] [] _
        refine wp_goto (tgt := 4) hX (dk DX5_cuttableOf 22 rfl) (by decide) ?_
        -- to 4
        have := ih (i + 1) (by omega)
        rw [jbs, if_pos h] at this
        exact this
      · refine wp_iload_n hX (dk DX5_cuttableOf 15 rfl) rfl ?_
        refine wp_iconst (v := 1) hX (dk DX5_cuttableOf 16 rfl) (by decide) ?_
        refine wp_iload_n hX (dk DX5_cuttableOf 17 rfl) rfl ?_
        refine wp_ishl hX (dk DX5_cuttableOf 18 rfl) ?_
        refine wp_ior hX (dk DX5_cuttableOf 19 rfl) ?_
        refine wp_istore_n hX (dk DX5_cuttableOf 20 rfl) rfl rfl hN (Nat.le_of_ble_eq_true rfl) ?_
        show WP _ _ _ 31 [_, _, _, _] [] _
        refine wp_iinc hX (dk DX5_cuttableOf 21 rfl) rfl (nI_inc _) rfl hN ?_
        show WP _ _ _ 34 [_, _, _, _] [] _
        refine wp_goto (tgt := 4) hX (dk DX5_cuttableOf 22 rfl) (by decide) ?_
        -- to 4
        have := ih (i + 1) (by omega)
        rw [jbs, if_neg h] at this
        exact this
  exact lo n 0 (by omega)
theorem k_above (d : Nat) (sw : Bool) (f : Nat → Nat → Int32) (g : Nat → Nat → Int64) (n : Nat) (x : Int32) (hn : f 1 4 = nI n) (hn10 : n ≤ 10) : CT (d + 1) 0 0 iX5_above [.ref 1, .int x] (S sw f g) (QR (some (.int (jbs (fun i => jbit (f 4 i) x) n))) (S sw f g)) := by
  refine CT.of rfl (Nat.le_of_ble_eq_true rfl) (fun X hX hR hN _ => ?_)
  have hX : Good X RX5 cX5_above (d + 1) 0 0 := hX
  have hN : x_nl X = 4 := hN
  show WP X 0 0 0 [_, _, _, _] [] _
  refine wp_iconst (v := 0) hX (dk DX5_above 0 rfl) (by decide) ?_
  refine wp_istore_n hX (dk DX5_above 1 rfl) rfl rfl hN (Nat.le_of_ble_eq_true rfl) ?_
  show WP _ _ _ 2 [_, _, _, _] [] _
  refine wp_iconst (v := 0) hX (dk DX5_above 2 rfl) (by decide) ?_
  refine wp_istore_n hX (dk DX5_above 3 rfl) rfl rfl hN (Nat.le_of_ble_eq_true rfl) ?_
  show WP _ _ _ 4 [_, _, _, _] [] _
  have lo : ∀ (m i : Nat), i + m = n → WP X 0 0 4 [some (.ref 1), some (.int x), some (.int (jbs (fun i => jbit (f 4 i) x) i)), some (.int (nI i))] [] (S sw f g) := by
    intro m
    induction m with
    | zero =>
      intro i hi
      obtain rfl : i = n := by omega
      refine wp_iload_n hX (dk DX5_above 4 rfl) rfl ?_
      refine wp_aload_n hX (dk DX5_above 5 rfl) rfl ?_
      refine w_geti hX flX5_28 (dk DX5_above 6 rfl) (by decide) rfl ?_
      refine wp_icmp_ge (tgt := 37) hX (dk DX5_above 7 rfl) (by decide) (fun _ => ?_) (fun h_ => absurd ((by rw [hn]; exact nI_le (by omega) (by omega))) h_)
      refine wp_iload_n hX (dk DX5_above 23 rfl) rfl ?_
      exact wp_ireturn hX hR (dk DX5_above 24 rfl) rfl (Nat.le_refl _) (Nat.le_refl _) (⟨rfl, rfl⟩)
    | succ m ih =>
      intro i hi
      refine wp_iload_n hX (dk DX5_above 4 rfl) rfl ?_
      refine wp_aload_n hX (dk DX5_above 5 rfl) rfl ?_
      refine w_geti hX flX5_28 (dk DX5_above 6 rfl) (by decide) rfl ?_
      refine wp_icmp_ge (tgt := 37) hX (dk DX5_above 7 rfl) (by decide) (fun h_ => absurd h_ ((by rw [hn]; exact nI_ge (by omega) (by omega)))) (fun _ => ?_)
      refine wp_aload_n hX (dk DX5_above 8 rfl) rfl ?_
      refine w_getr hX flX5_21 (dk DX5_above 9 rfl) rfl rfl ?_
      refine wp_iload_n hX (dk DX5_above 10 rfl) rfl ?_
      refine w_iald (j := _) hX (dk DX5_above 11 rfl) rfl rfl (show _ < 10 by omega) ?_
      refine wp_iload_n hX (dk DX5_above 12 rfl) rfl ?_
      refine w_callS (As := [_, _]) lkX5_50 hX (dk DX5_above 13 rfl) rfl (by decide) (k_holds d (f 4 i) x _) ?_
      show WP _ _ _ 22 [_, _, _, _] [_] _
      refine wp_if_eq (tgt := 31) hX (dk DX5_above 14 rfl) (by decide) (fun h => ?_) (fun h => ?_)
      · refine wp_iinc hX (dk DX5_above 21 rfl) rfl (nI_inc _) rfl hN ?_
        show WP _ _ _ 34 [_, _, _, _] [] _
        refine wp_goto (tgt := 4) hX (dk DX5_above 22 rfl) (by decide) ?_
        -- to 4
        have := ih (i + 1) (by omega)
        rw [jbs, if_pos h] at this
        exact this
      · refine wp_iload_n hX (dk DX5_above 15 rfl) rfl ?_
        refine wp_iconst (v := 1) hX (dk DX5_above 16 rfl) (by decide) ?_
        refine wp_iload_n hX (dk DX5_above 17 rfl) rfl ?_
        refine wp_ishl hX (dk DX5_above 18 rfl) ?_
        refine wp_ior hX (dk DX5_above 19 rfl) ?_
        refine wp_istore_n hX (dk DX5_above 20 rfl) rfl rfl hN (Nat.le_of_ble_eq_true rfl) ?_
        show WP _ _ _ 31 [_, _, _, _] [] _
        refine wp_iinc hX (dk DX5_above 21 rfl) rfl (nI_inc _) rfl hN ?_
        show WP _ _ _ 34 [_, _, _, _] [] _
        refine wp_goto (tgt := 4) hX (dk DX5_above 22 rfl) (by decide) ?_
        -- to 4
        have := ih (i + 1) (by omega)
        rw [jbs, if_neg h] at this
        exact this
  exact lo n 0 (by omega)
/-- what is in some of the sets -/
def jany (b : Nat → Int32) (x : Int32) : Nat → Int32
  | 0 => 0
  | k + 1 => if jbit x (nI k) = 0 then jany b x k else jany b x k ||| b k
theorem k_outOfAny (d : Nat) (sw : Bool) (f : Nat → Nat → Int32) (g : Nat → Nat → Int64) (n : Nat) (x : Int32) (hn : f 1 4 = nI n) (hn10 : n ≤ 10) : CT (d + 1) 0 0 iX5_outOfAny [.ref 1, .int x] (S sw f g) (QR (some (.int (jany (f 4) x n))) (S sw f g)) := by
  refine CT.of rfl (Nat.le_of_ble_eq_true rfl) (fun X hX hR hN _ => ?_)
  have hX : Good X RX5 cX5_outOfAny (d + 1) 0 0 := hX
  have hN : x_nl X = 4 := hN
  show WP X 0 0 0 [_, _, _, _] [] _
  refine wp_iconst (v := 0) hX (dk DX5_outOfAny 0 rfl) (by decide) ?_
  refine wp_istore_n hX (dk DX5_outOfAny 1 rfl) rfl rfl hN (Nat.le_of_ble_eq_true rfl) ?_
  show WP _ _ _ 2 [_, _, _, _] [] _
  refine wp_iconst (v := 0) hX (dk DX5_outOfAny 2 rfl) (by decide) ?_
  refine wp_istore_n hX (dk DX5_outOfAny 3 rfl) rfl rfl hN (Nat.le_of_ble_eq_true rfl) ?_
  show WP _ _ _ 4 [_, _, _, _] [] _
  have lo : ∀ (m i : Nat), i + m = n → WP X 0 0 4 [some (.ref 1), some (.int x), some (.int (jany (f 4) x i)), some (.int (nI i))] [] (S sw f g) := by
    intro m
    induction m with
    | zero =>
      intro i hi
      obtain rfl : i = n := by omega
      refine wp_iload_n hX (dk DX5_outOfAny 4 rfl) rfl ?_
      refine wp_aload_n hX (dk DX5_outOfAny 5 rfl) rfl ?_
      refine w_geti hX flX5_28 (dk DX5_outOfAny 6 rfl) (by decide) rfl ?_
      refine wp_icmp_ge (tgt := 35) hX (dk DX5_outOfAny 7 rfl) (by decide) (fun _ => ?_) (fun h_ => absurd ((by rw [hn]; exact nI_le (by omega) (by omega))) h_)
      refine wp_iload_n hX (dk DX5_outOfAny 21 rfl) rfl ?_
      exact wp_ireturn hX hR (dk DX5_outOfAny 22 rfl) rfl (Nat.le_refl _) (Nat.le_refl _) (⟨rfl, rfl⟩)
    | succ m ih =>
      intro i hi
      refine wp_iload_n hX (dk DX5_outOfAny 4 rfl) rfl ?_
      refine wp_aload_n hX (dk DX5_outOfAny 5 rfl) rfl ?_
      refine w_geti hX flX5_28 (dk DX5_outOfAny 6 rfl) (by decide) rfl ?_
      refine wp_icmp_ge (tgt := 35) hX (dk DX5_outOfAny 7 rfl) (by decide) (fun h_ => absurd h_ ((by rw [hn]; exact nI_ge (by omega) (by omega)))) (fun _ => ?_)
      refine wp_iload_n hX (dk DX5_outOfAny 8 rfl) rfl ?_
      refine wp_iload_n hX (dk DX5_outOfAny 9 rfl) rfl ?_
      refine w_callS (As := [_, _]) lkX5_50 hX (dk DX5_outOfAny 10 rfl) rfl (by decide) (k_holds d x (nI i) _) ?_
      show WP _ _ _ 17 [_, _, _, _] [_] _
      refine wp_if_eq (tgt := 29) hX (dk DX5_outOfAny 11 rfl) (by decide) (fun h => ?_) (fun h => ?_)
      · refine wp_iinc hX (dk DX5_outOfAny 19 rfl) rfl (nI_inc _) rfl hN ?_
        show WP _ _ _ 32 [_, _, _, _] [] _
        refine wp_goto (tgt := 4) hX (dk DX5_outOfAny 20 rfl) (by decide) ?_
        -- to 4
        have := ih (i + 1) (by omega)
        rw [jany, if_pos h] at this
        exact this
      · refine wp_iload_n hX (dk DX5_outOfAny 12 rfl) rfl ?_
        refine wp_aload_n hX (dk DX5_outOfAny 13 rfl) rfl ?_
        refine w_getr hX flX5_21 (dk DX5_outOfAny 14 rfl) rfl rfl ?_
        refine wp_iload_n hX (dk DX5_outOfAny 15 rfl) rfl ?_
        refine w_iald (j := _) hX (dk DX5_outOfAny 16 rfl) rfl rfl (show _ < 10 by omega) ?_
        refine wp_ior hX (dk DX5_outOfAny 17 rfl) ?_
        refine wp_istore_n hX (dk DX5_outOfAny 18 rfl) rfl rfl hN (Nat.le_of_ble_eq_true rfl) ?_
        show WP _ _ _ 29 [_, _, _, _] [] _
        refine wp_iinc hX (dk DX5_outOfAny 19 rfl) rfl (nI_inc _) rfl hN ?_
        show WP _ _ _ 32 [_, _, _, _] [] _
        refine wp_goto (tgt := 4) hX (dk DX5_outOfAny 20 rfl) (by decide) ?_
        -- to 4
        have := ih (i + 1) (by omega)
        rw [jany, if_neg h] at this
        exact this
  exact lo n 0 (by omega)
/-- which can be cut out of which -/
def blw (f : Nat → Nat → Int32) (n m : Nat) (sh : Nat → Int32) : Prop := ∀ i, i < n → f 4 i = jbs (fun j => jct (sh j) (sh i)) m
theorem stF.put {f : Nat → Nat → Int32} {n b k : Nat} {v : Int32} {sh : Nat → Int32} (h : stF f n sh) (hb : b = 3 ∨ b = 4 ∨ b = 5) : stF (u2 f b k v) n sh := by
  refine ⟨by rw [u2_ne _ _ _ (by omega)]; exact h.1, h.2.1, fun i hi => ?_⟩
  obtain ⟨h1, h2, h3, h4⟩ := h.2.2 i hi
  refine ⟨by rw [u2_ne _ _ _ (by omega)]; exact h1, by rw [u2_ne _ _ _ (by omega)]; exact h2, fun t ht => by rw [u2_ne _ _ _ (by omega)]; exact h3 t ht, by rw [u2_ne _ _ _ (by omega)]; exact h4.1, h4.2.1, fun j q hq => ?_⟩
  rw [u2_ne _ _ _ (by omega), u2_ne _ _ _ (by omega)]
  exact h4.2.2 j q hq
theorem k_relate (d : Nat) (sw : Bool) (f : Nat → Nat → Int32) (g : Nat → Nat → Int64) (n : Nat) (sh : Nat → Int32) (hst : stF f (n + 1) sh) (hb : blw f n n sh) : CT (d + 3) 0 0 iX5_relate [.ref 1, .int (nI n)] (S sw f g) (QS (fun r sw2 f2 g2 => r = none ∧ sw2 = sw ∧ g2 = g ∧ (∀ b, b ≠ 4 → f2 b = f b) ∧ blw f2 (n + 1) (n + 1) sh)) := by
  have hn10 := hst.2.1
  have hfr := hst.2.2 n (by omega)
  refine CT.of rfl (Nat.le_of_ble_eq_true rfl) (fun X hX hR hN _ => ?_)
  have hX : Good X RX5 cX5_relate (d + 3) 0 0 := hX
  have hN : x_nl X = 3 := hN
  show WP X 0 0 0 [_, _, _] [] _
  refine wp_aload_n hX (dk DX5_relate 0 rfl) rfl ?_
  refine w_getr hX flX5_21 (dk DX5_relate 1 rfl) rfl rfl ?_
  refine wp_iload_n hX (dk DX5_relate 2 rfl) rfl ?_
  refine wp_aload_n hX (dk DX5_relate 3 rfl) rfl ?_
  refine wp_aload_n hX (dk DX5_relate 4 rfl) rfl ?_
  refine w_getr hX flX5_11 (dk DX5_relate 5 rfl) rfl rfl ?_
  refine wp_iload_n hX (dk DX5_relate 6 rfl) rfl ?_
  refine w_aald (j := _) hX (dk DX5_relate 7 rfl) rfl rfl (show _ < 10 by omega) (rf_form sw n (by omega)) ?_
  refine w_geti hX flX5_54 (dk DX5_relate 8 rfl) (by decide) (isF_st n (by omega)).1 ?_
  rw [hfr.1]
  refine w_callV (As := [_]) lkX5_57 hX (dk DX5_relate 9 rfl) rfl rfl (by simp [Value.category]) hN (k_cuttableOf d sw f g (n + 1) sh (sh n) hst) ?_
  show WP _ _ _ 18 [_, _, _] [_, _, _] _
  refine w_iast (j := n) hX (dk DX5_relate 10 rfl) rfl rfl (show _ < 10 by omega) ?_
  refine wp_iconst (v := 0) hX (dk DX5_relate 11 rfl) (by decide) ?_
  refine wp_istore_n hX (dk DX5_relate 12 rfl) rfl rfl hN (Nat.le_of_ble_eq_true rfl) ?_
  show WP _ _ _ 21 [_, _, _] [] _
  have lo : ∀ (m i : Nat) (f2 : Nat → Nat → Int32), i + m = n → (∀ b, b ≠ 4 → f2 b = f b) → stF f2 (n + 1) sh → (∀ j, j < i → f2 4 j = jbs (fun k => jct (sh k) (sh j)) (n + 1)) → (∀ j, i ≤ j → j < n → f2 4 j = jbs (fun k => jct (sh k) (sh j)) n) → f2 4 n = jbs (fun k => jct (sh k) (sh n)) (n + 1) → WP X 0 0 21 [some (.ref 1), some (.int (nI n)), some (.int (nI i))] [] (S sw f2 g) := by
    intro m
    induction m with
    | zero =>
      intro i f2 hi hs hst2 h1 h2 h3
      obtain rfl : i = n := by omega
      refine wp_iload_n hX (dk DX5_relate 13 rfl) rfl ?_
      refine wp_iload_n hX (dk DX5_relate 14 rfl) rfl ?_
      refine wp_icmp_ge (tgt := 65) hX (dk DX5_relate 15 rfl) (by decide) (fun _ => ?_) (fun h_ => absurd ((nI_le (by omega) (by omega))) h_)
      refine wp_return hX hR (dk DX5_relate 39 rfl) (Nat.le_refl _) (Nat.le_refl _) ⟨sw, f2, g, rfl, rfl, rfl, rfl, hs, fun j hj => ?_⟩
      by_cases e : j = i
      · subst e; exact h3
      · exact h1 j (by omega)
    | succ m ih =>
      intro i f2 hi hs hst2 h1 h2 h3
      refine wp_iload_n hX (dk DX5_relate 13 rfl) rfl ?_
      refine wp_iload_n hX (dk DX5_relate 14 rfl) rfl ?_
      refine wp_icmp_ge (tgt := 65) hX (dk DX5_relate 15 rfl) (by decide) (fun h_ => absurd h_ ((nI_ge (by omega) (by omega)))) (fun _ => ?_)
      refine wp_aload_n hX (dk DX5_relate 16 rfl) rfl ?_
      refine w_getr hX flX5_11 (dk DX5_relate 17 rfl) rfl rfl ?_
      refine wp_iload_n hX (dk DX5_relate 18 rfl) rfl ?_
      refine w_aald (j := _) hX (dk DX5_relate 19 rfl) rfl rfl (show _ < 10 by omega) (rf_form sw n (by omega)) ?_
      refine wp_aload_n hX (dk DX5_relate 20 rfl) rfl ?_
      refine w_getr hX flX5_11 (dk DX5_relate 21 rfl) rfl rfl ?_
      refine wp_iload_n hX (dk DX5_relate 22 rfl) rfl ?_
      refine w_aald (j := _) hX (dk DX5_relate 23 rfl) rfl rfl (show _ < 10 by omega) (rf_form sw i (by omega)) ?_
      refine w_geti hX flX5_54 (dk DX5_relate 24 rfl) (by decide) (isF_st i (by omega)).1 ?_
      rw [(hst2.2.2 i (by omega)).1]
      refine w_callV (As := [_]) lkX5_46 hX (dk DX5_relate 25 rfl) (isF_st n (by omega)).1 rfl (by decide) hN (k_can (d + 1) sw f2 g (6 + 4 * n) (sh n) (sh i) (isF_st n (by omega)) (hst2.2.2 n (by omega))) ?_
      show WP _ _ _ 44 [_, _, _] [_] _
      refine wp_if_eq (tgt := 59) hX (dk DX5_relate 26 rfl) (by decide) (fun h => ?_) (fun h => ?_)
      · refine wp_iinc hX (dk DX5_relate 37 rfl) rfl (nI_inc _) rfl hN ?_
        show WP _ _ _ 62 [_, _, _] [] _
        refine wp_goto (tgt := 21) hX (dk DX5_relate 38 rfl) (by decide) ?_
        -- to 21
        refine ih (i + 1) f2 (by omega) hs hst2 (fun j hj => ?_) (fun j hj hj2 => h2 j (by omega) hj2) h3
        by_cases e : j = i
        · subst e
          rw [h2 j (by omega) (by omega), jbs, if_pos h]
        · exact h1 j (by omega)
      · refine wp_aload_n hX (dk DX5_relate 27 rfl) rfl ?_
        refine w_getr hX flX5_21 (dk DX5_relate 28 rfl) rfl rfl ?_
        refine wp_iload_n hX (dk DX5_relate 29 rfl) rfl ?_
        refine wp_dup2 hX (dk DX5_relate 30 rfl) rfl rfl ?_
        refine w_iald (j := _) hX (dk DX5_relate 31 rfl) rfl rfl (show _ < 10 by omega) ?_
        refine wp_iconst (v := 1) hX (dk DX5_relate 32 rfl) (by decide) ?_
        refine wp_iload_n hX (dk DX5_relate 33 rfl) rfl ?_
        refine wp_ishl hX (dk DX5_relate 34 rfl) ?_
        refine wp_ior hX (dk DX5_relate 35 rfl) ?_
        refine w_iast (j := _) hX (dk DX5_relate 36 rfl) rfl rfl (show _ < 10 by omega) ?_
        refine wp_iinc hX (dk DX5_relate 37 rfl) rfl (nI_inc _) rfl hN ?_
        show WP _ _ _ 62 [_, _, _] [] _
        refine wp_goto (tgt := 21) hX (dk DX5_relate 38 rfl) (by decide) ?_
        -- to 21
        refine ih (i + 1) _ (by omega) (fun b hb => by rw [u2_ne _ _ _ hb]; exact hs b hb) (hst2.put (Or.inr (Or.inl rfl))) (fun j hj => ?_) (fun j hj hj2 => ?_) ?_
        · by_cases e : j = i
          · subst e
            rw [u2_at, h2 j (by omega) (by omega), jbs, if_neg h]
          · rw [u2_off _ _ _ e]
            exact h1 j (by omega)
        · rw [u2_off _ _ _ (by omega)]
          exact h2 j (by omega) hj2
        · rw [u2_off _ _ _ (by omega)]
          exact h3
  refine lo n 0 _ (by omega) (fun b hb => u2_ne _ _ _ hb) (hst.put (Or.inr (Or.inl rfl))) (fun j hj => absurd hj (by omega)) (fun j _ hj => ?_) ?_
  · rw [u2_off _ _ _ (by omega)]
    exact hb j hj
  · rw [u2_at]
