/-! REFERENCE: shelves -/
/-- a row's length -/
def shR (f : Nat → Nat → Int32) : Prop := ∀ b k, b < 6 → k < 5 → f 106 b = nI k → ∃ z, z ≤ 60 ∧ f 107 b = nI z
theorem u_keep0 (d : Nat) (sw : Bool) (f : Nat → Nat → Int32) (g : Nat → Nat → Int64) (c : Nat) (x y : Int32) (hc : f 81 37 = nI c) (hc50 : c ≤ 50) (h : ¬ ((∃ b, b < 6 ∧ x = nI b) ∧ (y = -1 ∨ ∃ i, i < c ∧ y = nI i))) : CT (d + 110) 0 0 iX11_keep [.ref 81, .int x, .int y] (S sw f g) (rdM g f (-1)) := by
  have hy : ¬ y < -1 ∧ ¬ nI c - 1 < y → y = -1 ∨ ∃ i, i < c ∧ y = nI i := by
    rintro ⟨h1, h2⟩
    by_cases c0 : y = -1
    · exact Or.inl c0
    · refine Or.inr (rg_pred (by omega) (fun e => ?_) h2)
      have := iz_tri h1 c0
      rw [Int32.lt_iff_toInt_lt] at this e
      have e1 : (-1 : Int32).toInt = -1 := by decide
      have e2 : (0 : Int32).toInt = 0 := by decide
      omega
  refine CT.rdM ?_
  refine CT.of rfl (Nat.le_of_ble_eq_true rfl) (fun X hX hR hN _ => ?_)
  have hX : Good X RX11 cX11_keep (d + 110) 0 0 := hX
  have hN : x_nl X = 3 := hN
  show WP X 0 0 0 [_, _, _] [] _
  by_cases c1 : ∃ b, b < 6 ∧ x = nI b
  · obtain ⟨b, hb, rfl⟩ := c1
    refine wp_iload_n hX (dk DX11_keep 0 rfl) rfl ?_
    refine w_callS (As := [_]) lkX11_174 hX (dk DX11_keep 1 rfl) rfl (by decide) (k_mH1 (d + 108) sw f g b hb) ?_
    show WP _ _ _ 4 [_, _, _] [_] _
    refine wp_if_eq (tgt := 21) hX (dk DX11_keep 2 rfl) (by decide) (fun h_ => absurd h_ (by decide)) (fun _ => ?_)
    refine wp_iload_n hX (dk DX11_keep 3 rfl) rfl ?_
    refine wp_iconst (v := -1) hX (dk DX11_keep 4 rfl) (by decide) ?_
    refine wp_aload_n hX (dk DX11_keep 5 rfl) rfl ?_
    refine w_geti hX flX11_373 (dk DX11_keep 6 rfl) (by decide) rfl ?_
    rw [hc]
    refine wp_iconst (v := 1) hX (dk DX11_keep 7 rfl) (by decide) ?_
    refine wp_isub hX (dk DX11_keep 8 rfl) ?_
    refine w_callS (As := [_, _, _]) lkX11_116 hX (dk DX11_keep 9 rfl) rfl (by decide) (k_within (d + 109) _ _ _ _) ?_
    show WP _ _ _ 18 [_, _, _] [_] _
    rw [if_neg (fun q => h ⟨⟨b, hb, rfl⟩, hy q⟩)]
    refine wp_if_ne (tgt := 23) hX (dk DX11_keep 10 rfl) (by decide) (fun h_ => absurd (rfl) h_) (fun _ => ?_)
    refine wp_iconst (v := -1) hX (dk DX11_keep 11 rfl) (by decide) ?_
    exact wp_ireturn hX hR (dk DX11_keep 12 rfl) rfl (Nat.le_refl _) (Nat.le_refl _) (⟨rfl, rfl⟩)
  · refine wp_iload_n hX (dk DX11_keep 0 rfl) rfl ?_
    refine w_callS (As := [_]) lkX11_174 hX (dk DX11_keep 1 rfl) rfl (by decide) (k_mH0 (d + 108) sw f g x c1) ?_
    show WP _ _ _ 4 [_, _, _] [_] _
    refine wp_if_eq (tgt := 21) hX (dk DX11_keep 2 rfl) (by decide) (fun _ => ?_) (fun h_ => absurd (rfl) h_)
    refine wp_iconst (v := -1) hX (dk DX11_keep 11 rfl) (by decide) ?_
    exact wp_ireturn hX hR (dk DX11_keep 12 rfl) rfl (Nat.le_refl _) (Nat.le_refl _) (⟨rfl, rfl⟩)
theorem u_keepN (d : Nat) (sw : Bool) (f : Nat → Nat → Int32) (g : Nat → Nat → Int64) (b c : Nat) (hb : b < 6) (hc : f 81 37 = nI c) (hc50 : c ≤ 50) : CT (d + 110) 0 0 iX11_keep [.ref 81, .int (nI b), .int (-1)] (S sw f g) (QR (some (.int 1)) (S sw (u2 (u2 f 106 b (-1)) 107 b 0) g)) := by
  have hw : ¬ (-1 : Int32) < -1 ∧ ¬ nI c - 1 < -1 := by
    refine ⟨by decide, ?_⟩
    cases c with
    | zero => decide
    | succ c =>
      rw [nI_pred, Int32.lt_iff_toInt_lt, nI_toInt (by omega)]
      have e1 : (-1 : Int32).toInt = -1 := by decide
      omega
  refine CT.of rfl (Nat.le_of_ble_eq_true rfl) (fun X hX hR hN _ => ?_)
  have hX : Good X RX11 cX11_keep (d + 110) 0 0 := hX
  have hN : x_nl X = 3 := hN
  show WP X 0 0 0 [_, _, _] [] _
  refine wp_iload_n hX (dk DX11_keep 0 rfl) rfl ?_
  refine w_callS (As := [_]) lkX11_174 hX (dk DX11_keep 1 rfl) rfl (by decide) (k_mH1 (d + 108) sw f g b hb) ?_
  show WP _ _ _ 4 [_, _, _] [_] _
  refine wp_if_eq (tgt := 21) hX (dk DX11_keep 2 rfl) (by decide) (fun h_ => absurd h_ (by decide)) (fun _ => ?_)
  refine wp_iload_n hX (dk DX11_keep 3 rfl) rfl ?_
  refine wp_iconst (v := -1) hX (dk DX11_keep 4 rfl) (by decide) ?_
  refine wp_aload_n hX (dk DX11_keep 5 rfl) rfl ?_
  refine w_geti hX flX11_373 (dk DX11_keep 6 rfl) (by decide) rfl ?_
  rw [hc]
  refine wp_iconst (v := 1) hX (dk DX11_keep 7 rfl) (by decide) ?_
  refine wp_isub hX (dk DX11_keep 8 rfl) ?_
  refine w_callS (As := [_, _, _]) lkX11_116 hX (dk DX11_keep 9 rfl) rfl (by decide) (k_within (d + 109) _ _ _ _) ?_
  show WP _ _ _ 18 [_, _, _] [_] _
  rw [if_pos hw]
  refine wp_if_ne (tgt := 23) hX (dk DX11_keep 10 rfl) (by decide) (fun _ => ?_) (fun h_ => absurd h_ (by decide))
  refine wp_aload_n hX (dk DX11_keep 13 rfl) rfl ?_
  refine w_getr hX flX11_84 (dk DX11_keep 14 rfl) rfl rfl ?_
  refine wp_iload_n hX (dk DX11_keep 15 rfl) rfl ?_
  refine wp_iload_n hX (dk DX11_keep 16 rfl) rfl ?_
  refine wp_if_ge (tgt := 36) hX (dk DX11_keep 17 rfl) (by decide) (fun h_ => absurd h_ (by decide)) (fun _ => ?_)
  refine wp_iconst (v := -1) hX (dk DX11_keep 18 rfl) (by decide) ?_
  refine wp_goto (tgt := 40) hX (dk DX11_keep 19 rfl) (by decide) ?_
  refine w_iast (j := _) hX (dk DX11_keep 23 rfl) rfl rfl (show _ < 6 by omega) ?_
  refine wp_aload_n hX (dk DX11_keep 24 rfl) rfl ?_
  refine w_getr hX flX11_87 (dk DX11_keep 25 rfl) rfl rfl ?_
  refine wp_iload_n hX (dk DX11_keep 26 rfl) rfl ?_
  refine wp_iconst (v := 0) hX (dk DX11_keep 27 rfl) (by decide) ?_
  refine w_iast (j := _) hX (dk DX11_keep 28 rfl) rfl rfl (show _ < 6 by omega) ?_
  refine wp_iconst (v := 1) hX (dk DX11_keep 29 rfl) (by decide) ?_
  exact wp_ireturn hX hR (dk DX11_keep 30 rfl) rfl (Nat.le_refl _) (Nat.le_refl _) (⟨rfl, rfl⟩)
theorem u_keepS (d : Nat) (sw : Bool) (f : Nat → Nat → Int32) (g : Nat → Nat → Int64) (b c i : Nat) (hb : b < 6) (hc : f 81 37 = nI c) (hc50 : c ≤ 50) (hi : i < c) : CT (d + 110) 0 0 iX11_keep [.ref 81, .int (nI b), .int (nI i)] (S sw f g) (QR (some (.int 1)) (S sw (u2 (u2 f 106 b (nI (10 + i))) 107 b 0) g)) := by
  have hw : ¬ nI i < -1 ∧ ¬ nI c - 1 < nI i := by
    refine ⟨?_, ?_⟩
    · rw [Int32.lt_iff_toInt_lt, nI_toInt (by omega)]
      have e1 : (-1 : Int32).toInt = -1 := by decide
      omega
    · cases c with
      | zero => omega
      | succ c =>
        rw [nI_pred]
        exact nI_nlt (by omega) (by omega)
  refine CT.of rfl (Nat.le_of_ble_eq_true rfl) (fun X hX hR hN _ => ?_)
  have hX : Good X RX11 cX11_keep (d + 110) 0 0 := hX
  have hN : x_nl X = 3 := hN
  show WP X 0 0 0 [_, _, _] [] _
  refine wp_iload_n hX (dk DX11_keep 0 rfl) rfl ?_
  refine w_callS (As := [_]) lkX11_174 hX (dk DX11_keep 1 rfl) rfl (by decide) (k_mH1 (d + 108) sw f g b hb) ?_
  show WP _ _ _ 4 [_, _, _] [_] _
  refine wp_if_eq (tgt := 21) hX (dk DX11_keep 2 rfl) (by decide) (fun h_ => absurd h_ (by decide)) (fun _ => ?_)
  refine wp_iload_n hX (dk DX11_keep 3 rfl) rfl ?_
  refine wp_iconst (v := -1) hX (dk DX11_keep 4 rfl) (by decide) ?_
  refine wp_aload_n hX (dk DX11_keep 5 rfl) rfl ?_
  refine w_geti hX flX11_373 (dk DX11_keep 6 rfl) (by decide) rfl ?_
  rw [hc]
  refine wp_iconst (v := 1) hX (dk DX11_keep 7 rfl) (by decide) ?_
  refine wp_isub hX (dk DX11_keep 8 rfl) ?_
  refine w_callS (As := [_, _, _]) lkX11_116 hX (dk DX11_keep 9 rfl) rfl (by decide) (k_within (d + 109) _ _ _ _) ?_
  show WP _ _ _ 18 [_, _, _] [_] _
  rw [if_pos hw]
  refine wp_if_ne (tgt := 23) hX (dk DX11_keep 10 rfl) (by decide) (fun _ => ?_) (fun h_ => absurd h_ (by decide))
  refine wp_aload_n hX (dk DX11_keep 13 rfl) rfl ?_
  refine w_getr hX flX11_84 (dk DX11_keep 14 rfl) rfl rfl ?_
  refine wp_iload_n hX (dk DX11_keep 15 rfl) rfl ?_
  refine wp_iload_n hX (dk DX11_keep 16 rfl) rfl ?_
  refine wp_if_ge (tgt := 36) hX (dk DX11_keep 17 rfl) (by decide) (fun _ => ?_) (fun h_ => absurd (nI_pos' (by omega)) h_)
  refine wp_bipush (v := 10) hX (dk DX11_keep 20 rfl) (by decide) ?_
  refine wp_iload_n hX (dk DX11_keep 21 rfl) rfl ?_
  refine wp_iadd hX (dk DX11_keep 22 rfl) ?_
  rw [show (10 : Int32) + nI i = nI (10 + i) from nI_add 10 i]
  refine w_iast (j := _) hX (dk DX11_keep 23 rfl) rfl rfl (show _ < 6 by omega) ?_
  refine wp_aload_n hX (dk DX11_keep 24 rfl) rfl ?_
  refine w_getr hX flX11_87 (dk DX11_keep 25 rfl) rfl rfl ?_
  refine wp_iload_n hX (dk DX11_keep 26 rfl) rfl ?_
  refine wp_iconst (v := 0) hX (dk DX11_keep 27 rfl) (by decide) ?_
  refine w_iast (j := _) hX (dk DX11_keep 28 rfl) rfl rfl (show _ < 6 by omega) ?_
  refine wp_iconst (v := 1) hX (dk DX11_keep 29 rfl) (by decide) ?_
  exact wp_ireturn hX hR (dk DX11_keep 30 rfl) rfl (Nat.le_refl _) (Nat.le_refl _) (⟨rfl, rfl⟩)
theorem u_row0 (d : Nat) (sw : Bool) (f : Nat → Nat → Int32) (g : Nat → Nat → Int64) (x y z : Int32) (h : ¬ ((∃ b, b < 6 ∧ x = nI b) ∧ (∃ k, k < 5 ∧ y = nI k) ∧ ¬ 60 < z)) : CT (d + 110) 0 0 iX11_row [.ref 81, .int x, .int y, .int z] (S sw f g) (rdM g f (-1)) := by
  refine CT.rdM ?_
  refine CT.of rfl (Nat.le_of_ble_eq_true rfl) (fun X hX hR hN _ => ?_)
  have hX : Good X RX11 cX11_row (d + 110) 0 0 := hX
  have hN : x_nl X = 5 := hN
  show WP X 0 0 0 [_, _, _, _, _] [] _
  by_cases c1 : ∃ b, b < 6 ∧ x = nI b
  · obtain ⟨b, hb, rfl⟩ := c1
    by_cases c2 : ∃ k, k < 5 ∧ y = nI k
    · obtain ⟨k, hk, rfl⟩ := c2
      refine wp_iload_n hX (dk DX11_row 0 rfl) rfl ?_
      refine w_callS (As := [_]) lkX11_174 hX (dk DX11_row 1 rfl) rfl (by decide) (k_mH1 (d + 108) sw f g b hb) ?_
      show WP _ _ _ 4 [_, _, _, _, _] [_] _
      refine wp_if_eq (tgt := 22) hX (dk DX11_row 2 rfl) (by decide) (fun h_ => absurd h_ (by decide)) (fun _ => ?_)
      refine wp_iload_n hX (dk DX11_row 3 rfl) rfl ?_
      refine wp_iconst (v := 0) hX (dk DX11_row 4 rfl) (by decide) ?_
      refine wp_iconst (v := 4) hX (dk DX11_row 5 rfl) (by decide) ?_
      refine w_callS (As := [_, _, _]) lkX11_116 hX (dk DX11_row 6 rfl) rfl (by decide) (k_wi1 (d + 109) k 4 4 _ rfl (by decide) (by omega)) ?_
      show WP _ _ _ 13 [_, _, _, _, _] [_] _
      refine wp_if_eq (tgt := 22) hX (dk DX11_row 7 rfl) (by decide) (fun h_ => absurd h_ (by decide)) (fun _ => ?_)
      refine wp_iload_n hX (dk DX11_row 8 rfl) rfl ?_
      refine wp_bipush (v := 60) hX (dk DX11_row 9 rfl) (by decide) ?_
      refine wp_icmp_le (tgt := 24) hX (dk DX11_row 10 rfl) (by decide) (fun h_ => absurd h_ (fun q => h ⟨⟨b, hb, rfl⟩, ⟨k, hk, rfl⟩, Int32.not_lt.mpr q⟩)) (fun _ => ?_)
      refine wp_iconst (v := -1) hX (dk DX11_row 11 rfl) (by decide) ?_
      exact wp_ireturn hX hR (dk DX11_row 12 rfl) rfl (Nat.le_refl _) (Nat.le_refl _) (⟨rfl, rfl⟩)
    · refine wp_iload_n hX (dk DX11_row 0 rfl) rfl ?_
      refine w_callS (As := [_]) lkX11_174 hX (dk DX11_row 1 rfl) rfl (by decide) (k_mH1 (d + 108) sw f g b hb) ?_
      show WP _ _ _ 4 [_, _, _, _, _] [_] _
      refine wp_if_eq (tgt := 22) hX (dk DX11_row 2 rfl) (by decide) (fun h_ => absurd h_ (by decide)) (fun _ => ?_)
      refine wp_iload_n hX (dk DX11_row 3 rfl) rfl ?_
      refine wp_iconst (v := 0) hX (dk DX11_row 4 rfl) (by decide) ?_
      refine wp_iconst (v := 4) hX (dk DX11_row 5 rfl) (by decide) ?_
      refine w_callS (As := [_, _, _]) lkX11_116 hX (dk DX11_row 6 rfl) rfl (by decide) (k_wi0 (d + 109) 4 y 4 _ rfl (by decide) (fun ⟨i, h1, h2⟩ => c2 ⟨i, by omega, h2⟩)) ?_
      show WP _ _ _ 13 [_, _, _, _, _] [_] _
      refine wp_if_eq (tgt := 22) hX (dk DX11_row 7 rfl) (by decide) (fun _ => ?_) (fun h_ => absurd (rfl) h_)
      refine wp_iconst (v := -1) hX (dk DX11_row 11 rfl) (by decide) ?_
      exact wp_ireturn hX hR (dk DX11_row 12 rfl) rfl (Nat.le_refl _) (Nat.le_refl _) (⟨rfl, rfl⟩)
  · refine wp_iload_n hX (dk DX11_row 0 rfl) rfl ?_
    refine w_callS (As := [_]) lkX11_174 hX (dk DX11_row 1 rfl) rfl (by decide) (k_mH0 (d + 108) sw f g x c1) ?_
    show WP _ _ _ 4 [_, _, _, _, _] [_] _
    refine wp_if_eq (tgt := 22) hX (dk DX11_row 2 rfl) (by decide) (fun _ => ?_) (fun h_ => absurd (rfl) h_)
    refine wp_iconst (v := -1) hX (dk DX11_row 11 rfl) (by decide) ?_
    exact wp_ireturn hX hR (dk DX11_row 12 rfl) rfl (Nat.le_refl _) (Nat.le_refl _) (⟨rfl, rfl⟩)
theorem u_rowN (d : Nat) (sw : Bool) (f : Nat → Nat → Int32) (g : Nat → Nat → Int64) (b k : Nat) (z : Int32) (hb : b < 6) (hk : k < 5) (hz : z < 0) : CT (d + 110) 0 0 iX11_row [.ref 81, .int (nI b), .int (nI k), .int z] (S sw f g) (rdM g f (-14)) := by
  refine CT.rdM ?_
  refine CT.of rfl (Nat.le_of_ble_eq_true rfl) (fun X hX hR hN _ => ?_)
  have hX : Good X RX11 cX11_row (d + 110) 0 0 := hX
  have hN : x_nl X = 5 := hN
  show WP X 0 0 0 [_, _, _, _, _] [] _
  refine wp_iload_n hX (dk DX11_row 0 rfl) rfl ?_
  refine w_callS (As := [_]) lkX11_174 hX (dk DX11_row 1 rfl) rfl (by decide) (k_mH1 (d + 108) sw f g b hb) ?_
  show WP _ _ _ 4 [_, _, _, _, _] [_] _
  refine wp_if_eq (tgt := 22) hX (dk DX11_row 2 rfl) (by decide) (fun h_ => absurd h_ (by decide)) (fun _ => ?_)
  refine wp_iload_n hX (dk DX11_row 3 rfl) rfl ?_
  refine wp_iconst (v := 0) hX (dk DX11_row 4 rfl) (by decide) ?_
  refine wp_iconst (v := 4) hX (dk DX11_row 5 rfl) (by decide) ?_
  refine w_callS (As := [_, _, _]) lkX11_116 hX (dk DX11_row 6 rfl) rfl (by decide) (k_wi1 (d + 109) k 4 4 _ rfl (by decide) (by omega)) ?_
  show WP _ _ _ 13 [_, _, _, _, _] [_] _
  refine wp_if_eq (tgt := 22) hX (dk DX11_row 7 rfl) (by decide) (fun h_ => absurd h_ (by decide)) (fun _ => ?_)
  refine wp_iload_n hX (dk DX11_row 8 rfl) rfl ?_
  refine wp_bipush (v := 60) hX (dk DX11_row 9 rfl) (by decide) ?_
  refine wp_icmp_le (tgt := 24) hX (dk DX11_row 10 rfl) (by decide) (fun _ => ?_) (fun h_ => absurd (Int32.le_of_lt (Int32.lt_trans hz (by decide))) h_)
  refine wp_iload_n hX (dk DX11_row 13 rfl) rfl ?_
  refine wp_if_ge (tgt := 31) hX (dk DX11_row 14 rfl) (by decide) (fun h_ => absurd h_ (Int32.not_le.mpr hz)) (fun _ => ?_)
  refine wp_bipush (v := -14) hX (dk DX11_row 15 rfl) (by decide) ?_
  exact wp_ireturn hX hR (dk DX11_row 16 rfl) rfl (Nat.le_refl _) (Nat.le_refl _) (⟨rfl, rfl⟩)
theorem u_row1 (d : Nat) (sw : Bool) (f : Nat → Nat → Int32) (g : Nat → Nat → Int64) (b k z : Nat) (hb : b < 6) (hk : k < 5) (hz : z ≤ 60) : CT (d + 110) 0 0 iX11_row [.ref 81, .int (nI b), .int (nI k), .int (nI z)] (S sw f g) (QR (some (.int 1)) (S sw (u2 (u2 f 106 b (nI k)) 107 b (nI z)) (u1 g 108 (jemp (g 108) b 60)))) := by
  refine CT.of rfl (Nat.le_of_ble_eq_true rfl) (fun X hX hR hN _ => ?_)
  have hX : Good X RX11 cX11_row (d + 110) 0 0 := hX
  have hN : x_nl X = 5 := hN
  show WP X 0 0 0 [_, _, _, _, _] [] _
  have lo : ∀ (m i : Nat), i + m = 60 → WP X 0 0 48 [some (.ref 81), some (.int (nI b)), some (.int (nI k)), some (.int (nI z)), some (.int (nI i))] [] (S sw (u2 (u2 f 106 b (nI k)) 107 b (nI z)) (u1 g 108 (jemp (g 108) b i))) := by
    intro m
    induction m with
    | zero =>
      intro i hi
      obtain rfl : i = 60 := by omega
      refine wp_iload hX (dk DX11_row 29 rfl) rfl ?_
      refine wp_bipush (v := 60) hX (dk DX11_row 30 rfl) (by decide) ?_
      refine wp_icmp_ge (tgt := 74) hX (dk DX11_row 31 rfl) (by decide) (fun _ => ?_) (fun h_ => absurd (by decide) h_)
      refine wp_iconst (v := 1) hX (dk DX11_row 43 rfl) (by decide) ?_
      exact wp_ireturn hX hR (dk DX11_row 44 rfl) rfl (Nat.le_refl _) (Nat.le_refl _) (⟨rfl, rfl⟩)
    | succ m ih =>
      intro i hi
      have e : u2 (u1 g 108 (jemp (g 108) b i)) 108 (b * 60 + i) 0 = u1 g 108 (jemp (g 108) b (i + 1)) := by
        funext c j
        unfold u2 u1 jemp
        by_cases hc : c = 108
        · subst hc
          simp only [if_true]
          by_cases hj : j = b * 60 + i
          · rw [if_pos hj, if_pos (by omega)]
          · rw [if_neg hj]
            by_cases h3 : b * 60 ≤ j ∧ j < b * 60 + i
            · rw [if_pos h3, if_pos (by omega)]
            · rw [if_neg h3, if_neg (by omega)]
        · simp only [if_neg hc]
      have nx := ih (i + 1) (by omega)
      rw [← e] at nx
      refine wp_iload hX (dk DX11_row 29 rfl) rfl ?_
      refine wp_bipush (v := 60) hX (dk DX11_row 30 rfl) (by decide) ?_
      refine wp_icmp_ge (tgt := 74) hX (dk DX11_row 31 rfl) (by decide) (fun h_ => absurd h_ (nI_ge (b := 60) (by omega) (by omega))) (fun _ => ?_)
      refine wp_aload_n hX (dk DX11_row 32 rfl) rfl ?_
      refine w_getr hX flX11_90 (dk DX11_row 33 rfl) rfl rfl ?_
      refine wp_bipush (v := 60) hX (dk DX11_row 34 rfl) (by decide) ?_
      refine wp_iload_n hX (dk DX11_row 35 rfl) rfl ?_
      refine wp_imul hX (dk DX11_row 36 rfl) ?_
      refine wp_iload hX (dk DX11_row 37 rfl) rfl ?_
      refine wp_iadd hX (dk DX11_row 38 rfl) ?_
      refine wp_lconst (v := 0) hX (dk DX11_row 39 rfl) (by decide) ?_
      refine w_last (j := (b * 60 + i)) hX (dk DX11_row 40 rfl) rfl (ix60m b i) (show _ < 360 by omega) ?_
      refine wp_iinc hX (dk DX11_row 41 rfl) rfl (nI_inc _) rfl hN ?_
      show WP _ _ _ 71 [_, _, _, _, _] [] _
      refine wp_goto (tgt := 48) hX (dk DX11_row 42 rfl) (by decide) ?_
      exact nx
  have e0 : u1 g 108 (jemp (g 108) b 0) = g := by
    funext c
    unfold u1 jemp
    by_cases hc : c = 108
    · subst hc
      rw [if_pos rfl]
      funext j
      rw [if_neg (by omega)]
    · rw [if_neg hc]
  have l0 := lo 60 0 rfl
  rw [e0] at l0
  refine wp_iload_n hX (dk DX11_row 0 rfl) rfl ?_
  refine w_callS (As := [_]) lkX11_174 hX (dk DX11_row 1 rfl) rfl (by decide) (k_mH1 (d + 108) sw f g b hb) ?_
  show WP _ _ _ 4 [_, _, _, _, _] [_] _
  refine wp_if_eq (tgt := 22) hX (dk DX11_row 2 rfl) (by decide) (fun h_ => absurd h_ (by decide)) (fun _ => ?_)
  refine wp_iload_n hX (dk DX11_row 3 rfl) rfl ?_
  refine wp_iconst (v := 0) hX (dk DX11_row 4 rfl) (by decide) ?_
  refine wp_iconst (v := 4) hX (dk DX11_row 5 rfl) (by decide) ?_
  refine w_callS (As := [_, _, _]) lkX11_116 hX (dk DX11_row 6 rfl) rfl (by decide) (k_wi1 (d + 109) k 4 4 _ rfl (by decide) (by omega)) ?_
  show WP _ _ _ 13 [_, _, _, _, _] [_] _
  refine wp_if_eq (tgt := 22) hX (dk DX11_row 7 rfl) (by decide) (fun h_ => absurd h_ (by decide)) (fun _ => ?_)
  refine wp_iload_n hX (dk DX11_row 8 rfl) rfl ?_
  refine wp_bipush (v := 60) hX (dk DX11_row 9 rfl) (by decide) ?_
  refine wp_icmp_le (tgt := 24) hX (dk DX11_row 10 rfl) (by decide) (fun _ => ?_) (fun h_ => absurd (nI_le (b := 60) (by omega) (by omega)) h_)
  refine wp_iload_n hX (dk DX11_row 13 rfl) rfl ?_
  refine wp_if_ge (tgt := 31) hX (dk DX11_row 14 rfl) (by decide) (fun _ => ?_) (fun h_ => absurd (nI_pos' (by omega)) h_)
  refine wp_aload_n hX (dk DX11_row 17 rfl) rfl ?_
  refine w_getr hX flX11_84 (dk DX11_row 18 rfl) rfl rfl ?_
  refine wp_iload_n hX (dk DX11_row 19 rfl) rfl ?_
  refine wp_iload_n hX (dk DX11_row 20 rfl) rfl ?_
  refine w_iast (j := _) hX (dk DX11_row 21 rfl) rfl rfl (show _ < 6 by omega) ?_
  refine wp_aload_n hX (dk DX11_row 22 rfl) rfl ?_
  refine w_getr hX flX11_87 (dk DX11_row 23 rfl) rfl rfl ?_
  refine wp_iload_n hX (dk DX11_row 24 rfl) rfl ?_
  refine wp_iload_n hX (dk DX11_row 25 rfl) rfl ?_
  refine w_iast (j := _) hX (dk DX11_row 26 rfl) rfl rfl (show _ < 6 by omega) ?_
  refine wp_iconst (v := 0) hX (dk DX11_row 27 rfl) (by decide) ?_
  refine wp_istore hX (dk DX11_row 28 rfl) rfl hN (Nat.le_of_ble_eq_true rfl) ?_
  show WP _ _ _ 48 [_, _, _, _, _] [] _
  exact l0
theorem lt5 (x : Int32) : (¬ 4 < x) ↔ x < 5 := by
  rw [Int32.lt_iff_toInt_lt, Int32.lt_iff_toInt_lt]
  have e1 : (4 : Int32).toInt = 4 := by decide
  have e2 : (5 : Int32).toInt = 5 := by decide
  omega
theorem k_misR (d : Nat) (sw : Bool) (f : Nat → Nat → Int32) (g : Nat → Nat → Int64) (b : Nat) (hb : b < 6) : CT (d + 1) 0 0 iX11_isRow [.ref 81, .int (nI b)] (S sw f g) (QR (some (.int (jin (f 106 b) 5))) (S sw f g)) := by
  refine CT.of rfl (Nat.le_of_ble_eq_true rfl) (fun X hX hR hN _ => ?_)
  have hX : Good X RX11 cX11_isRow (d + 1) 0 0 := hX
  have hN : x_nl X = 2 := hN
  show WP X 0 0 0 [_, _] [] _
  unfold jin at hR
  simp only [← lt5] at hR
  by_cases c : ¬ f 106 b < 0 ∧ ¬ 4 < f 106 b
  · rw [if_pos c] at hR
    refine wp_aload_n hX (dk DX11_isRow 0 rfl) rfl ?_
    refine w_getr hX flX11_84 (dk DX11_isRow 1 rfl) rfl rfl ?_
    refine wp_iload_n hX (dk DX11_isRow 2 rfl) rfl ?_
    refine w_iald (j := _) hX (dk DX11_isRow 3 rfl) rfl rfl (show _ < 6 by omega) ?_
    refine wp_iconst (v := 0) hX (dk DX11_isRow 4 rfl) (by decide) ?_
    refine wp_iconst (v := 4) hX (dk DX11_isRow 5 rfl) (by decide) ?_
    refine w_callS (As := [_, _, _]) lkX11_116 hX (dk DX11_isRow 6 rfl) rfl (by decide) (k_within d _ _ _ _) ?_
    show WP _ _ _ 11 [_, _] [_] _
    rw [if_pos c]
    exact wp_ireturn hX hR (dk DX11_isRow 7 rfl) rfl (Nat.le_refl _) (Nat.le_refl _) (⟨rfl, rfl⟩)
  · rw [if_neg c] at hR
    refine wp_aload_n hX (dk DX11_isRow 0 rfl) rfl ?_
    refine w_getr hX flX11_84 (dk DX11_isRow 1 rfl) rfl rfl ?_
    refine wp_iload_n hX (dk DX11_isRow 2 rfl) rfl ?_
    refine w_iald (j := _) hX (dk DX11_isRow 3 rfl) rfl rfl (show _ < 6 by omega) ?_
    refine wp_iconst (v := 0) hX (dk DX11_isRow 4 rfl) (by decide) ?_
    refine wp_iconst (v := 4) hX (dk DX11_isRow 5 rfl) (by decide) ?_
    refine w_callS (As := [_, _, _]) lkX11_116 hX (dk DX11_isRow 6 rfl) rfl (by decide) (k_within d _ _ _ _) ?_
    show WP _ _ _ 11 [_, _] [_] _
    rw [if_neg c]
    exact wp_ireturn hX hR (dk DX11_isRow 7 rfl) rfl (Nat.le_refl _) (Nat.le_refl _) (⟨rfl, rfl⟩)
theorem jstr_in {z : Nat} {i n : Int32} (hz : z ≤ 60) (h : ¬ jstr (nI z) i n = 0) : ∃ p q, i = nI p ∧ n = nI q ∧ p + q ≤ z := by
  unfold jstr at h
  split at h
  · next c =>
    obtain ⟨p, p1, rfl⟩ := nI_of c.1
    obtain ⟨q, q1, rfl⟩ := nI_of c.2.1
    have q2 : q ≤ z := Nat.le_of_not_lt (fun e => c.2.2.1 (nI_lt e q1))
    have c4 := c.2.2.2
    rw [pk_sub q2] at c4
    have p2 : p ≤ z - q := Nat.le_of_not_lt (fun e => c4 (nI_lt e p1))
    exact ⟨p, q, rfl, rfl, by omega⟩
  · exact absurd rfl h
theorem jstr_y {z p q : Nat} (hz : z ≤ 60) (h : p + q ≤ z) : jstr (nI z) (nI p) (nI q) = 1 := by
  unfold jstr
  rw [if_pos ⟨nI_pos (by omega), nI_pos (by omega), nI_nlt (by omega) (by omega), by rw [pk_sub (by omega)]; exact nI_nlt (by omega) (by omega)⟩]
theorem wi_str {z : Nat} {i : Int32} (hz : z ≤ 60) : (if ¬ i < 0 ∧ ¬ nI z - 1 < i then (1 : Int32) else 0) = jstr (nI z) i 1 := by
  by_cases c : ∃ p, p < z ∧ i = nI p
  · obtain ⟨p, hp, rfl⟩ := c
    rw [wi_1 (by omega) hp]
    exact (jstr_y (q := 1) hz (by omega)).symm
  · rw [wi_0 (by omega) c]
    by_cases e : jstr (nI z) i 1 = 0
    · exact e.symm
    · obtain ⟨p, q, h1, h2, h3⟩ := jstr_in hz e
      have := (nI_eq (a := 1) (by omega) (by omega)).mp h2
      exact absurd ⟨p, by omega, h1⟩ c
theorem k_mkept (d : Nat) (sw : Bool) (f : Nat → Nat → Int32) (g : Nat → Nat → Int64) (k : Nat) (v : Int64) (hk : k < 5) : CT d 0 0 iX11_kept [.int (nI k), .long v] (S sw f g) (QR (some (.long (jnar k v))) (S sw f g)) := by
  refine CT.of rfl (Nat.le_of_ble_eq_true rfl) (fun X hX hR hN _ => ?_)
  have hX : Good X RX11 cX11_kept d 0 0 := hX
  have hN : x_nl X = 3 := hN
  show WP X 0 0 0 [_, _, _] [] _
  rcases (show k = 0 ∨ k = 1 ∨ k = 2 ∨ k = 3 ∨ k = 4 by omega) with rfl | rfl | rfl | rfl | rfl
  · refine wp_iload_n hX (dk DX11_kept 0 rfl) rfl ?_
    refine wp_tabAt (c := 0) (off := 31) (tgt := 32) hX (dk DX11_kept 1 rfl) (rfl) (by decide) (by decide) (by decide) (by decide) ?_
    refine wp_lload_n hX (dk DX11_kept 2 rfl) rfl ?_
    refine wp_l2i hX (dk DX11_kept 3 rfl) ?_
    refine wp_i2b hX (dk DX11_kept 4 rfl) ?_
    refine wp_i2l hX (dk DX11_kept 5 rfl) ?_
    exact wp_lreturn hX hR (dk DX11_kept 6 rfl) (Nat.le_refl _) (Nat.le_refl _) (⟨rfl, rfl⟩)
  · refine wp_iload_n hX (dk DX11_kept 0 rfl) rfl ?_
    refine wp_tabAt (c := 1) (off := 36) (tgt := 37) hX (dk DX11_kept 1 rfl) (rfl) (by decide) (by decide) (by decide) (by decide) ?_
    refine wp_lload_n hX (dk DX11_kept 7 rfl) rfl ?_
    refine wp_l2i hX (dk DX11_kept 8 rfl) ?_
    refine wp_i2s hX (dk DX11_kept 9 rfl) ?_
    refine wp_i2l hX (dk DX11_kept 10 rfl) ?_
    exact wp_lreturn hX hR (dk DX11_kept 11 rfl) (Nat.le_refl _) (Nat.le_refl _) (⟨rfl, rfl⟩)
  · refine wp_iload_n hX (dk DX11_kept 0 rfl) rfl ?_
    refine wp_tabAt (c := 2) (off := 41) (tgt := 42) hX (dk DX11_kept 1 rfl) (rfl) (by decide) (by decide) (by decide) (by decide) ?_
    refine wp_lload_n hX (dk DX11_kept 12 rfl) rfl ?_
    refine wp_l2i hX (dk DX11_kept 13 rfl) ?_
    refine wp_i2l hX (dk DX11_kept 14 rfl) ?_
    exact wp_lreturn hX hR (dk DX11_kept 15 rfl) (Nat.le_refl _) (Nat.le_refl _) (⟨rfl, rfl⟩)
  · refine wp_iload_n hX (dk DX11_kept 0 rfl) rfl ?_
    refine wp_tabAt (c := 3) (off := 45) (tgt := 46) hX (dk DX11_kept 1 rfl) (rfl) (by decide) (by decide) (by decide) (by decide) ?_
    refine wp_lload_n hX (dk DX11_kept 16 rfl) rfl ?_
    exact wp_lreturn hX hR (dk DX11_kept 17 rfl) (Nat.le_refl _) (Nat.le_refl _) (⟨rfl, rfl⟩)
  · refine wp_iload_n hX (dk DX11_kept 0 rfl) rfl ?_
    refine wp_tabOut (tgt := 48) hX (dk DX11_kept 1 rfl) (by decide) (by decide) ?_
    refine wp_lload_n hX (dk DX11_kept 18 rfl) rfl ?_
    refine wp_lconst (v := 0) hX (dk DX11_kept 19 rfl) (by decide) ?_
    refine wp_lcmp hX (dk DX11_kept 20 rfl) ?_
    refine wp_if_eq (tgt := 58) hX (dk DX11_kept 21 rfl) (by decide) (fun h51 => ?_) (fun h51 => ?_)
    · refine wp_lconst (v := 0) hX (dk DX11_kept 24 rfl) (by decide) ?_
      exact wp_lreturn hX hR (dk DX11_kept 25 rfl) (Nat.le_refl _) (Nat.le_refl _) (⟨by rw [show jnar 4 v = if v = 0 then 0 else 1 from rfl]; first | rw [if_pos ((lg_cmp_eq v 0).mp h51)] | rw [if_neg (fun q => h51 ((lg_cmp_eq v 0).mpr q))], rfl⟩)
    · refine wp_lconst (v := 1) hX (dk DX11_kept 22 rfl) (by decide) ?_
      refine wp_goto (tgt := 59) hX (dk DX11_kept 23 rfl) (by decide) ?_
      exact wp_lreturn hX hR (dk DX11_kept 25 rfl) (Nat.le_refl _) (Nat.le_refl _) (⟨by rw [show jnar 4 v = if v = 0 then 0 else 1 from rfl]; first | rw [if_pos ((lg_cmp_eq v 0).mp h51)] | rw [if_neg (fun q => h51 ((lg_cmp_eq v 0).mpr q))], rfl⟩)
theorem u_put0 (d : Nat) (sw : Bool) (f : Nat → Nat → Int32) (g : Nat → Nat → Int64) (x i : Int32) (v : Int64) (h : ¬ ∃ b, b < 6 ∧ x = nI b) : CT (d + 110) 0 0 iX11_put [.ref 81, .int x, .int i, .long v] (S sw f g) (rdM g f (-1)) := by
  refine CT.rdM ?_
  refine CT.of rfl (Nat.le_of_ble_eq_true rfl) (fun X hX hR hN _ => ?_)
  have hX : Good X RX11 cX11_put (d + 110) 0 0 := hX
  have hN : x_nl X = 5 := hN
  show WP X 0 0 0 [_, _, _, _, _] [] _
  refine wp_iload_n hX (dk DX11_put 0 rfl) rfl ?_
  refine w_callS (As := [_]) lkX11_174 hX (dk DX11_put 1 rfl) rfl (by decide) (k_mH0 (d + 108) sw f g x h) ?_
  show WP _ _ _ 4 [_, _, _, _, _] [_] _
  refine wp_if_ne (tgt := 9) hX (dk DX11_put 2 rfl) (by decide) (fun h_ => absurd (rfl) h_) (fun _ => ?_)
  refine wp_iconst (v := -1) hX (dk DX11_put 3 rfl) (by decide) ?_
  exact wp_ireturn hX hR (dk DX11_put 4 rfl) rfl (Nat.le_refl _) (Nat.le_refl _) (⟨rfl, rfl⟩)
theorem u_putR (d : Nat) (sw : Bool) (f : Nat → Nat → Int32) (g : Nat → Nat → Int64) (b : Nat) (i : Int32) (v : Int64) (hb : b < 6) (hs : shR f) (h : ¬ jre (f 106 b) (f 107 b) i = 0) : CT (d + 110) 0 0 iX11_put [.ref 81, .int (nI b), .int i, .long v] (S sw f g) (rdM g f (jre (f 106 b) (f 107 b) i)) := by
  refine CT.rdM ?_
  obtain ⟨ans, hans⟩ : ∃ a, a = jre (f 106 b) (f 107 b) i := ⟨_, rfl⟩
  rw [← hans] at h ⊢
  unfold jre at hans
  refine CT.of rfl (Nat.le_of_ble_eq_true rfl) (fun X hX hR hN _ => ?_)
  have hX : Good X RX11 cX11_put (d + 110) 0 0 := hX
  have hN : x_nl X = 5 := hN
  show WP X 0 0 0 [_, _, _, _, _] [] _
  by_cases c1 : f 106 b = -1
  · rw [if_pos c1] at hans
    rw [hans] at hR
    refine wp_iload_n hX (dk DX11_put 0 rfl) rfl ?_
    refine w_callS (As := [_]) lkX11_174 hX (dk DX11_put 1 rfl) rfl (by decide) (k_mH1 (d + 108) sw f g b hb) ?_
    show WP _ _ _ 4 [_, _, _, _, _] [_] _
    refine wp_if_ne (tgt := 9) hX (dk DX11_put 2 rfl) (by decide) (fun _ => ?_) (fun h_ => absurd h_ (by decide))
    refine wp_aload_n hX (dk DX11_put 5 rfl) rfl ?_
    refine w_getr hX flX11_84 (dk DX11_put 6 rfl) rfl rfl ?_
    refine wp_iload_n hX (dk DX11_put 7 rfl) rfl ?_
    refine w_iald (j := _) hX (dk DX11_put 8 rfl) rfl rfl (show _ < 6 by omega) ?_
    refine wp_iconst (v := -1) hX (dk DX11_put 9 rfl) (by decide) ?_
    refine wp_icmp_ne (tgt := 22) hX (dk DX11_put 10 rfl) (by decide) (fun h_ => absurd (c1) h_) (fun _ => ?_)
    refine wp_bipush (v := -11) hX (dk DX11_put 11 rfl) (by decide) ?_
    exact wp_ireturn hX hR (dk DX11_put 12 rfl) rfl (Nat.le_refl _) (Nat.le_refl _) (⟨rfl, rfl⟩)
  · rw [if_neg c1] at hans
    by_cases c2 : jin (f 106 b) 5 = 0
    · rw [if_pos c2] at hans
      rw [hans] at hR
      refine wp_iload_n hX (dk DX11_put 0 rfl) rfl ?_
      refine w_callS (As := [_]) lkX11_174 hX (dk DX11_put 1 rfl) rfl (by decide) (k_mH1 (d + 108) sw f g b hb) ?_
      show WP _ _ _ 4 [_, _, _, _, _] [_] _
      refine wp_if_ne (tgt := 9) hX (dk DX11_put 2 rfl) (by decide) (fun _ => ?_) (fun h_ => absurd h_ (by decide))
      refine wp_aload_n hX (dk DX11_put 5 rfl) rfl ?_
      refine w_getr hX flX11_84 (dk DX11_put 6 rfl) rfl rfl ?_
      refine wp_iload_n hX (dk DX11_put 7 rfl) rfl ?_
      refine w_iald (j := _) hX (dk DX11_put 8 rfl) rfl rfl (show _ < 6 by omega) ?_
      refine wp_iconst (v := -1) hX (dk DX11_put 9 rfl) (by decide) ?_
      refine wp_icmp_ne (tgt := 22) hX (dk DX11_put 10 rfl) (by decide) (fun _ => ?_) (fun h_ => absurd h_ (c1))
      refine wp_aload_n hX (dk DX11_put 13 rfl) rfl ?_
      refine wp_iload_n hX (dk DX11_put 14 rfl) rfl ?_
      refine w_callV (As := [_]) lkX11_376 hX (dk DX11_put 15 rfl) rfl rfl (by decide) hN (k_misR (d + 108) sw f g b hb) ?_
      show WP _ _ _ 27 [_, _, _, _, _] [_] _
      refine wp_if_ne (tgt := 33) hX (dk DX11_put 16 rfl) (by decide) (fun h_ => absurd (c2) h_) (fun _ => ?_)
      refine wp_bipush (v := -12) hX (dk DX11_put 17 rfl) (by decide) ?_
      exact wp_ireturn hX hR (dk DX11_put 18 rfl) rfl (Nat.le_refl _) (Nat.le_refl _) (⟨rfl, rfl⟩)
    · rw [if_neg c2] at hans
      obtain ⟨k, k1, k2⟩ := jin_ex (n := 5) (by decide) c2
      obtain ⟨z, z1, z2⟩ := hs b k hb k1 k2
      rw [z2] at hans
      by_cases c3 : jstr (nI z) i 1 = 0
      · rw [if_pos c3] at hans
        rw [hans] at hR
        refine wp_iload_n hX (dk DX11_put 0 rfl) rfl ?_
        refine w_callS (As := [_]) lkX11_174 hX (dk DX11_put 1 rfl) rfl (by decide) (k_mH1 (d + 108) sw f g b hb) ?_
        show WP _ _ _ 4 [_, _, _, _, _] [_] _
        refine wp_if_ne (tgt := 9) hX (dk DX11_put 2 rfl) (by decide) (fun _ => ?_) (fun h_ => absurd h_ (by decide))
        refine wp_aload_n hX (dk DX11_put 5 rfl) rfl ?_
        refine w_getr hX flX11_84 (dk DX11_put 6 rfl) rfl rfl ?_
        refine wp_iload_n hX (dk DX11_put 7 rfl) rfl ?_
        refine w_iald (j := _) hX (dk DX11_put 8 rfl) rfl rfl (show _ < 6 by omega) ?_
        refine wp_iconst (v := -1) hX (dk DX11_put 9 rfl) (by decide) ?_
        refine wp_icmp_ne (tgt := 22) hX (dk DX11_put 10 rfl) (by decide) (fun _ => ?_) (fun h_ => absurd h_ (c1))
        refine wp_aload_n hX (dk DX11_put 13 rfl) rfl ?_
        refine wp_iload_n hX (dk DX11_put 14 rfl) rfl ?_
        refine w_callV (As := [_]) lkX11_376 hX (dk DX11_put 15 rfl) rfl rfl (by decide) hN (k_misR (d + 108) sw f g b hb) ?_
        show WP _ _ _ 27 [_, _, _, _, _] [_] _
        refine wp_if_ne (tgt := 33) hX (dk DX11_put 16 rfl) (by decide) (fun _ => ?_) (fun h_ => absurd h_ (c2))
        refine wp_iload_n hX (dk DX11_put 19 rfl) rfl ?_
        refine wp_iconst (v := 0) hX (dk DX11_put 20 rfl) (by decide) ?_
        refine wp_aload_n hX (dk DX11_put 21 rfl) rfl ?_
        refine w_getr hX flX11_87 (dk DX11_put 22 rfl) rfl rfl ?_
        refine wp_iload_n hX (dk DX11_put 23 rfl) rfl ?_
        refine w_iald (j := _) hX (dk DX11_put 24 rfl) rfl rfl (show _ < 6 by omega) ?_
        rw [z2]
        refine wp_iconst (v := 1) hX (dk DX11_put 25 rfl) (by decide) ?_
        refine wp_isub hX (dk DX11_put 26 rfl) ?_
        refine w_callS (As := [_, _, _]) lkX11_116 hX (dk DX11_put 27 rfl) rfl (by decide) (k_within (d + 109) _ _ _ _) ?_
        show WP _ _ _ 46 [_, _, _, _, _] [_] _
        rw [wi_str z1]
        refine wp_if_ne (tgt := 52) hX (dk DX11_put 28 rfl) (by decide) (fun h_ => absurd (c3) h_) (fun _ => ?_)
        refine wp_bipush (v := -13) hX (dk DX11_put 29 rfl) (by decide) ?_
        exact wp_ireturn hX hR (dk DX11_put 30 rfl) rfl (Nat.le_refl _) (Nat.le_refl _) (⟨rfl, rfl⟩)
      · rw [if_neg c3] at hans
        exact absurd hans h
theorem u_put1 (d : Nat) (sw : Bool) (f : Nat → Nat → Int32) (g : Nat → Nat → Int64) (b i k : Nat) (v : Int64) (hb : b < 6) (hi : i < 60) (hs : shR f) (hk : f 106 b = nI k) (hk5 : k < 5) (h : jre (f 106 b) (f 107 b) (nI i) = 0) : CT (d + 110) 0 0 iX11_put [.ref 81, .int (nI b), .int (nI i), .long v] (S sw f g) (QR (some (.int 1)) (S sw f (u2 g 108 (b * 60 + i) (jnar k v)))) := by
  obtain ⟨z, z1, z2⟩ := hs b k hb hk5 hk
  have h3 := (jre_0 h).2
  rw [z2] at h3
  have hne : ¬ nI k = -1 := fun q => nI_pos (n := k) (by omega) (by rw [q]; decide)
  refine CT.of rfl (Nat.le_of_ble_eq_true rfl) (fun X hX hR hN _ => ?_)
  have hX : Good X RX11 cX11_put (d + 110) 0 0 := hX
  have hN : x_nl X = 5 := hN
  show WP X 0 0 0 [_, _, _, _, _] [] _
  refine wp_iload_n hX (dk DX11_put 0 rfl) rfl ?_
  refine w_callS (As := [_]) lkX11_174 hX (dk DX11_put 1 rfl) rfl (by decide) (k_mH1 (d + 108) sw f g b hb) ?_
  show WP _ _ _ 4 [_, _, _, _, _] [_] _
  refine wp_if_ne (tgt := 9) hX (dk DX11_put 2 rfl) (by decide) (fun _ => ?_) (fun h_ => absurd h_ (by decide))
  refine wp_aload_n hX (dk DX11_put 5 rfl) rfl ?_
  refine w_getr hX flX11_84 (dk DX11_put 6 rfl) rfl rfl ?_
  refine wp_iload_n hX (dk DX11_put 7 rfl) rfl ?_
  refine w_iald (j := _) hX (dk DX11_put 8 rfl) rfl rfl (show _ < 6 by omega) ?_
  rw [hk]
  refine wp_iconst (v := -1) hX (dk DX11_put 9 rfl) (by decide) ?_
  refine wp_icmp_ne (tgt := 22) hX (dk DX11_put 10 rfl) (by decide) (fun _ => ?_) (fun h_ => absurd h_ (hne))
  refine wp_aload_n hX (dk DX11_put 13 rfl) rfl ?_
  refine wp_iload_n hX (dk DX11_put 14 rfl) rfl ?_
  refine w_callV (As := [_]) lkX11_376 hX (dk DX11_put 15 rfl) rfl rfl (by decide) hN (k_misR (d + 108) sw f g b hb) ?_
  show WP _ _ _ 27 [_, _, _, _, _] [_] _
  rw [hk, show jin (nI k) 5 = 1 from jin_1 (n := 5) (by decide) hk5 rfl]
  refine wp_if_ne (tgt := 33) hX (dk DX11_put 16 rfl) (by decide) (fun _ => ?_) (fun h_ => absurd h_ (by decide))
  refine wp_iload_n hX (dk DX11_put 19 rfl) rfl ?_
  refine wp_iconst (v := 0) hX (dk DX11_put 20 rfl) (by decide) ?_
  refine wp_aload_n hX (dk DX11_put 21 rfl) rfl ?_
  refine w_getr hX flX11_87 (dk DX11_put 22 rfl) rfl rfl ?_
  refine wp_iload_n hX (dk DX11_put 23 rfl) rfl ?_
  refine w_iald (j := _) hX (dk DX11_put 24 rfl) rfl rfl (show _ < 6 by omega) ?_
  rw [z2]
  refine wp_iconst (v := 1) hX (dk DX11_put 25 rfl) (by decide) ?_
  refine wp_isub hX (dk DX11_put 26 rfl) ?_
  refine w_callS (As := [_, _, _]) lkX11_116 hX (dk DX11_put 27 rfl) rfl (by decide) (k_within (d + 109) _ _ _ _) ?_
  show WP _ _ _ 46 [_, _, _, _, _] [_] _
  rw [wi_str z1]
  refine wp_if_ne (tgt := 52) hX (dk DX11_put 28 rfl) (by decide) (fun _ => ?_) (fun h_ => absurd h_ (h3))
  refine wp_aload_n hX (dk DX11_put 31 rfl) rfl ?_
  refine w_getr hX flX11_90 (dk DX11_put 32 rfl) rfl rfl ?_
  refine wp_bipush (v := 60) hX (dk DX11_put 33 rfl) (by decide) ?_
  refine wp_iload_n hX (dk DX11_put 34 rfl) rfl ?_
  refine wp_imul hX (dk DX11_put 35 rfl) ?_
  refine wp_iload_n hX (dk DX11_put 36 rfl) rfl ?_
  refine wp_iadd hX (dk DX11_put 37 rfl) ?_
  refine wp_aload_n hX (dk DX11_put 38 rfl) rfl ?_
  refine w_getr hX flX11_84 (dk DX11_put 39 rfl) rfl rfl ?_
  refine wp_iload_n hX (dk DX11_put 40 rfl) rfl ?_
  refine w_iald (j := _) hX (dk DX11_put 41 rfl) rfl rfl (show _ < 6 by omega) ?_
  rw [hk]
  refine wp_lload_n hX (dk DX11_put 42 rfl) rfl ?_
  refine w_callS (As := [_, _]) lkX11_379 hX (dk DX11_put 43 rfl) rfl (by simp [Value.category]) (k_mkept (d + 109) sw f g k v hk5) ?_
  show WP _ _ _ 72 [_, _, _, _, _] [_, _, _] _
  refine w_last (j := (b * 60 + i)) hX (dk DX11_put 44 rfl) rfl (ix60m b i) (show _ < 360 by omega) ?_
  refine wp_iconst (v := 1) hX (dk DX11_put 45 rfl) (by decide) ?_
  exact wp_ireturn hX hR (dk DX11_put 46 rfl) rfl (Nat.le_refl _) (Nat.le_refl _) (⟨rfl, rfl⟩)
theorem u_elem0 (d : Nat) (sw : Bool) (f : Nat → Nat → Int32) (g : Nat → Nat → Int64) (x i : Int32) (h : ¬ ∃ b, b < 6 ∧ x = nI b) : CT (d + 110) 0 0 iX11_element [.ref 81, .int x, .int i] (S sw f g) (QR (some (.long (-9223372036854775808))) (S sw f g)) := by
  refine CT.of rfl (Nat.le_of_ble_eq_true rfl) (fun X hX hR hN _ => ?_)
  have hX : Good X RX11 cX11_element (d + 110) 0 0 := hX
  have hN : x_nl X = 3 := hN
  show WP X 0 0 0 [_, _, _] [] _
  refine wp_iload_n hX (dk DX11_element 0 rfl) rfl ?_
  refine w_callS (As := [_]) lkX11_174 hX (dk DX11_element 1 rfl) rfl (by decide) (k_mH0 (d + 108) sw f g x h) ?_
  show WP _ _ _ 4 [_, _, _] [_] _
  refine wp_if_eq (tgt := 45) hX (dk DX11_element 2 rfl) (by decide) (fun _ => ?_) (fun h_ => absurd (rfl) h_)
  refine wp_ldc2 hX (dk DX11_element 26 rfl) kcX11_383 ?_
  exact wp_lreturn hX hR (dk DX11_element 27 rfl) (Nat.le_refl _) (Nat.le_refl _) (⟨rfl, rfl⟩)
theorem u_elemR (d : Nat) (sw : Bool) (f : Nat → Nat → Int32) (g : Nat → Nat → Int64) (b : Nat) (i : Int32) (hb : b < 6) (hs : shR f) (h : ¬ jre (f 106 b) (f 107 b) i = 0) : CT (d + 110) 0 0 iX11_element [.ref 81, .int (nI b), .int i] (S sw f g) (QR (some (.long (-9223372036854775808))) (S sw f g)) := by
  unfold jre at h
  refine CT.of rfl (Nat.le_of_ble_eq_true rfl) (fun X hX hR hN _ => ?_)
  have hX : Good X RX11 cX11_element (d + 110) 0 0 := hX
  have hN : x_nl X = 3 := hN
  show WP X 0 0 0 [_, _, _] [] _
  by_cases c2 : jin (f 106 b) 5 = 0
  · refine wp_iload_n hX (dk DX11_element 0 rfl) rfl ?_
    refine w_callS (As := [_]) lkX11_174 hX (dk DX11_element 1 rfl) rfl (by decide) (k_mH1 (d + 108) sw f g b hb) ?_
    show WP _ _ _ 4 [_, _, _] [_] _
    refine wp_if_eq (tgt := 45) hX (dk DX11_element 2 rfl) (by decide) (fun h_ => absurd h_ (by decide)) (fun _ => ?_)
    refine wp_aload_n hX (dk DX11_element 3 rfl) rfl ?_
    refine wp_iload_n hX (dk DX11_element 4 rfl) rfl ?_
    refine w_callV (As := [_]) lkX11_376 hX (dk DX11_element 5 rfl) rfl rfl (by decide) hN (k_misR (d + 108) sw f g b hb) ?_
    show WP _ _ _ 12 [_, _, _] [_] _
    refine wp_if_eq (tgt := 45) hX (dk DX11_element 6 rfl) (by decide) (fun _ => ?_) (fun h_ => absurd (c2) h_)
    refine wp_ldc2 hX (dk DX11_element 26 rfl) kcX11_383 ?_
    exact wp_lreturn hX hR (dk DX11_element 27 rfl) (Nat.le_refl _) (Nat.le_refl _) (⟨rfl, rfl⟩)
  · obtain ⟨k, k1, k2⟩ := jin_ex (n := 5) (by decide) c2
    obtain ⟨z, z1, z2⟩ := hs b k hb k1 k2
    have hne : ¬ nI k = -1 := fun q => nI_pos (n := k) (by omega) (by rw [q]; decide)
    rw [k2, if_neg hne, ← k2, if_neg c2, z2] at h
    have c3 : jstr (nI z) i 1 = 0 := Classical.byContradiction (fun q => h (if_neg q))
    refine wp_iload_n hX (dk DX11_element 0 rfl) rfl ?_
    refine w_callS (As := [_]) lkX11_174 hX (dk DX11_element 1 rfl) rfl (by decide) (k_mH1 (d + 108) sw f g b hb) ?_
    show WP _ _ _ 4 [_, _, _] [_] _
    refine wp_if_eq (tgt := 45) hX (dk DX11_element 2 rfl) (by decide) (fun h_ => absurd h_ (by decide)) (fun _ => ?_)
    refine wp_aload_n hX (dk DX11_element 3 rfl) rfl ?_
    refine wp_iload_n hX (dk DX11_element 4 rfl) rfl ?_
    refine w_callV (As := [_]) lkX11_376 hX (dk DX11_element 5 rfl) rfl rfl (by decide) hN (k_misR (d + 108) sw f g b hb) ?_
    show WP _ _ _ 12 [_, _, _] [_] _
    refine wp_if_eq (tgt := 45) hX (dk DX11_element 6 rfl) (by decide) (fun h_ => absurd h_ (c2)) (fun _ => ?_)
    refine wp_iload_n hX (dk DX11_element 7 rfl) rfl ?_
    refine wp_iconst (v := 0) hX (dk DX11_element 8 rfl) (by decide) ?_
    refine wp_aload_n hX (dk DX11_element 9 rfl) rfl ?_
    refine w_getr hX flX11_87 (dk DX11_element 10 rfl) rfl rfl ?_
    refine wp_iload_n hX (dk DX11_element 11 rfl) rfl ?_
    refine w_iald (j := _) hX (dk DX11_element 12 rfl) rfl rfl (show _ < 6 by omega) ?_
    rw [z2]
    refine wp_iconst (v := 1) hX (dk DX11_element 13 rfl) (by decide) ?_
    refine wp_isub hX (dk DX11_element 14 rfl) ?_
    refine w_callS (As := [_, _, _]) lkX11_116 hX (dk DX11_element 15 rfl) rfl (by decide) (k_within (d + 109) _ _ _ _) ?_
    show WP _ _ _ 28 [_, _, _] [_] _
    rw [wi_str z1]
    refine wp_if_eq (tgt := 45) hX (dk DX11_element 16 rfl) (by decide) (fun _ => ?_) (fun h_ => absurd (c3) h_)
    refine wp_ldc2 hX (dk DX11_element 26 rfl) kcX11_383 ?_
    exact wp_lreturn hX hR (dk DX11_element 27 rfl) (Nat.le_refl _) (Nat.le_refl _) (⟨rfl, rfl⟩)
theorem u_elem1 (d : Nat) (sw : Bool) (f : Nat → Nat → Int32) (g : Nat → Nat → Int64) (b i : Nat) (hb : b < 6) (hi : i < 60) (hs : shR f) (h : jre (f 106 b) (f 107 b) (nI i) = 0) : CT (d + 110) 0 0 iX11_element [.ref 81, .int (nI b), .int (nI i)] (S sw f g) (QR (some (.long (g 108 (b * 60 + i)))) (S sw f g)) := by
  obtain ⟨⟨k, k1, k2⟩, h3⟩ := jre_0 h
  obtain ⟨z, z1, z2⟩ := hs b k hb k1 k2
  rw [z2] at h3
  refine CT.of rfl (Nat.le_of_ble_eq_true rfl) (fun X hX hR hN _ => ?_)
  have hX : Good X RX11 cX11_element (d + 110) 0 0 := hX
  have hN : x_nl X = 3 := hN
  show WP X 0 0 0 [_, _, _] [] _
  refine wp_iload_n hX (dk DX11_element 0 rfl) rfl ?_
  refine w_callS (As := [_]) lkX11_174 hX (dk DX11_element 1 rfl) rfl (by decide) (k_mH1 (d + 108) sw f g b hb) ?_
  show WP _ _ _ 4 [_, _, _] [_] _
  refine wp_if_eq (tgt := 45) hX (dk DX11_element 2 rfl) (by decide) (fun h_ => absurd h_ (by decide)) (fun _ => ?_)
  refine wp_aload_n hX (dk DX11_element 3 rfl) rfl ?_
  refine wp_iload_n hX (dk DX11_element 4 rfl) rfl ?_
  refine w_callV (As := [_]) lkX11_376 hX (dk DX11_element 5 rfl) rfl rfl (by decide) hN (k_misR (d + 108) sw f g b hb) ?_
  show WP _ _ _ 12 [_, _, _] [_] _
  rw [k2, show jin (nI k) 5 = 1 from jin_1 (n := 5) (by decide) k1 rfl]
  refine wp_if_eq (tgt := 45) hX (dk DX11_element 6 rfl) (by decide) (fun h_ => absurd h_ (by decide)) (fun _ => ?_)
  refine wp_iload_n hX (dk DX11_element 7 rfl) rfl ?_
  refine wp_iconst (v := 0) hX (dk DX11_element 8 rfl) (by decide) ?_
  refine wp_aload_n hX (dk DX11_element 9 rfl) rfl ?_
  refine w_getr hX flX11_87 (dk DX11_element 10 rfl) rfl rfl ?_
  refine wp_iload_n hX (dk DX11_element 11 rfl) rfl ?_
  refine w_iald (j := _) hX (dk DX11_element 12 rfl) rfl rfl (show _ < 6 by omega) ?_
  rw [z2]
  refine wp_iconst (v := 1) hX (dk DX11_element 13 rfl) (by decide) ?_
  refine wp_isub hX (dk DX11_element 14 rfl) ?_
  refine w_callS (As := [_, _, _]) lkX11_116 hX (dk DX11_element 15 rfl) rfl (by decide) (k_within (d + 109) _ _ _ _) ?_
  show WP _ _ _ 28 [_, _, _] [_] _
  rw [wi_str z1]
  refine wp_if_eq (tgt := 45) hX (dk DX11_element 16 rfl) (by decide) (fun h_ => absurd h_ (h3)) (fun _ => ?_)
  refine wp_aload_n hX (dk DX11_element 17 rfl) rfl ?_
  refine w_getr hX flX11_90 (dk DX11_element 18 rfl) rfl rfl ?_
  refine wp_bipush (v := 60) hX (dk DX11_element 19 rfl) (by decide) ?_
  refine wp_iload_n hX (dk DX11_element 20 rfl) rfl ?_
  refine wp_imul hX (dk DX11_element 21 rfl) ?_
  refine wp_iload_n hX (dk DX11_element 22 rfl) rfl ?_
  refine wp_iadd hX (dk DX11_element 23 rfl) ?_
  refine w_lald (j := (b * 60 + i)) hX (dk DX11_element 24 rfl) rfl (ix60m b i) (show _ < 360 by omega) ?_
  refine wp_goto (tgt := 48) hX (dk DX11_element 25 rfl) (by decide) ?_
  exact wp_lreturn hX hR (dk DX11_element 27 rfl) (Nat.le_refl _) (Nat.le_refl _) (⟨rfl, rfl⟩)
theorem u_taken0 (d : Nat) (sw : Bool) (f : Nat → Nat → Int32) (g : Nat → Nat → Int64) (x y : Int32) (h : ¬ ((∃ b, b < 6 ∧ x = nI b) ∧ ∃ k, k < 8 ∧ y = nI k)) : CT (d + 110) 0 0 iX11_taken [.ref 81, .int x, .int y] (S sw f g) (rdM g f (-1)) := by
  refine CT.rdM ?_
  refine CT.of rfl (Nat.le_of_ble_eq_true rfl) (fun X hX hR hN _ => ?_)
  have hX : Good X RX11 cX11_taken (d + 110) 0 0 := hX
  have hN : x_nl X = 5 := hN
  show WP X 0 0 0 [_, _, _, _, _] [] _
  by_cases c1 : ∃ b, b < 6 ∧ x = nI b
  · obtain ⟨b, hb, rfl⟩ := c1
    refine wp_iload_n hX (dk DX11_taken 0 rfl) rfl ?_
    refine w_callS (As := [_]) lkX11_174 hX (dk DX11_taken 1 rfl) rfl (by decide) (k_mH1 (d + 108) sw f g b hb) ?_
    show WP _ _ _ 4 [_, _, _, _, _] [_] _
    refine wp_if_eq (tgt := 17) hX (dk DX11_taken 2 rfl) (by decide) (fun h_ => absurd h_ (by decide)) (fun _ => ?_)
    refine wp_iload_n hX (dk DX11_taken 3 rfl) rfl ?_
    refine wp_iconst (v := 0) hX (dk DX11_taken 4 rfl) (by decide) ?_
    refine wp_bipush (v := 7) hX (dk DX11_taken 5 rfl) (by decide) ?_
    refine w_callS (As := [_, _, _]) lkX11_116 hX (dk DX11_taken 6 rfl) rfl (by decide) (k_wi0 (d + 109) 7 y 7 _ rfl (by decide) (fun ⟨i, h1, h2⟩ => h ⟨⟨b, hb, rfl⟩, i, by omega, h2⟩)) ?_
    show WP _ _ _ 14 [_, _, _, _, _] [_] _
    refine wp_if_ne (tgt := 19) hX (dk DX11_taken 7 rfl) (by decide) (fun h_ => absurd (rfl) h_) (fun _ => ?_)
    refine wp_iconst (v := -1) hX (dk DX11_taken 8 rfl) (by decide) ?_
    exact wp_ireturn hX hR (dk DX11_taken 9 rfl) rfl (Nat.le_refl _) (Nat.le_refl _) (⟨rfl, rfl⟩)
  · refine wp_iload_n hX (dk DX11_taken 0 rfl) rfl ?_
    refine w_callS (As := [_]) lkX11_174 hX (dk DX11_taken 1 rfl) rfl (by decide) (k_mH0 (d + 108) sw f g x c1) ?_
    show WP _ _ _ 4 [_, _, _, _, _] [_] _
    refine wp_if_eq (tgt := 17) hX (dk DX11_taken 2 rfl) (by decide) (fun _ => ?_) (fun h_ => absurd (rfl) h_)
    refine wp_iconst (v := -1) hX (dk DX11_taken 8 rfl) (by decide) ?_
    exact wp_ireturn hX hR (dk DX11_taken 9 rfl) rfl (Nat.le_refl _) (Nat.le_refl _) (⟨rfl, rfl⟩)
theorem u_takenR (d : Nat) (sw : Bool) (f : Nat → Nat → Int32) (g : Nat → Nat → Int64) (b k : Nat) (hb : b < 6) (hk : k < 8) (h : f 106 b = -1 ∨ ¬ jin (f 106 b) 5 = 0) : CT (d + 110) 0 0 iX11_taken [.ref 81, .int (nI b), .int (nI k)] (S sw f g) (rdM g f (if f 106 b = -1 then -11 else -12)) := by
  refine CT.rdM ?_
  refine CT.of rfl (Nat.le_of_ble_eq_true rfl) (fun X hX hR hN _ => ?_)
  have hX : Good X RX11 cX11_taken (d + 110) 0 0 := hX
  have hN : x_nl X = 5 := hN
  show WP X 0 0 0 [_, _, _, _, _] [] _
  by_cases c1 : f 106 b = -1
  · rw [if_pos c1] at hR
    refine wp_iload_n hX (dk DX11_taken 0 rfl) rfl ?_
    refine w_callS (As := [_]) lkX11_174 hX (dk DX11_taken 1 rfl) rfl (by decide) (k_mH1 (d + 108) sw f g b hb) ?_
    show WP _ _ _ 4 [_, _, _, _, _] [_] _
    refine wp_if_eq (tgt := 17) hX (dk DX11_taken 2 rfl) (by decide) (fun h_ => absurd h_ (by decide)) (fun _ => ?_)
    refine wp_iload_n hX (dk DX11_taken 3 rfl) rfl ?_
    refine wp_iconst (v := 0) hX (dk DX11_taken 4 rfl) (by decide) ?_
    refine wp_bipush (v := 7) hX (dk DX11_taken 5 rfl) (by decide) ?_
    refine w_callS (As := [_, _, _]) lkX11_116 hX (dk DX11_taken 6 rfl) rfl (by decide) (k_wi1 (d + 109) k 7 7 _ rfl (by decide) (by omega)) ?_
    show WP _ _ _ 14 [_, _, _, _, _] [_] _
    refine wp_if_ne (tgt := 19) hX (dk DX11_taken 7 rfl) (by decide) (fun _ => ?_) (fun h_ => absurd h_ (by decide))
    refine wp_aload_n hX (dk DX11_taken 10 rfl) rfl ?_
    refine w_getr hX flX11_84 (dk DX11_taken 11 rfl) rfl rfl ?_
    refine wp_iload_n hX (dk DX11_taken 12 rfl) rfl ?_
    refine w_iald (j := _) hX (dk DX11_taken 13 rfl) rfl rfl (show _ < 6 by omega) ?_
    refine wp_iconst (v := -1) hX (dk DX11_taken 14 rfl) (by decide) ?_
    refine wp_icmp_ne (tgt := 32) hX (dk DX11_taken 15 rfl) (by decide) (fun h_ => absurd (c1) h_) (fun _ => ?_)
    refine wp_bipush (v := -11) hX (dk DX11_taken 16 rfl) (by decide) ?_
    exact wp_ireturn hX hR (dk DX11_taken 17 rfl) rfl (Nat.le_refl _) (Nat.le_refl _) (⟨rfl, rfl⟩)
  · rw [if_neg c1] at hR
    refine wp_iload_n hX (dk DX11_taken 0 rfl) rfl ?_
    refine w_callS (As := [_]) lkX11_174 hX (dk DX11_taken 1 rfl) rfl (by decide) (k_mH1 (d + 108) sw f g b hb) ?_
    show WP _ _ _ 4 [_, _, _, _, _] [_] _
    refine wp_if_eq (tgt := 17) hX (dk DX11_taken 2 rfl) (by decide) (fun h_ => absurd h_ (by decide)) (fun _ => ?_)
    refine wp_iload_n hX (dk DX11_taken 3 rfl) rfl ?_
    refine wp_iconst (v := 0) hX (dk DX11_taken 4 rfl) (by decide) ?_
    refine wp_bipush (v := 7) hX (dk DX11_taken 5 rfl) (by decide) ?_
    refine w_callS (As := [_, _, _]) lkX11_116 hX (dk DX11_taken 6 rfl) rfl (by decide) (k_wi1 (d + 109) k 7 7 _ rfl (by decide) (by omega)) ?_
    show WP _ _ _ 14 [_, _, _, _, _] [_] _
    refine wp_if_ne (tgt := 19) hX (dk DX11_taken 7 rfl) (by decide) (fun _ => ?_) (fun h_ => absurd h_ (by decide))
    refine wp_aload_n hX (dk DX11_taken 10 rfl) rfl ?_
    refine w_getr hX flX11_84 (dk DX11_taken 11 rfl) rfl rfl ?_
    refine wp_iload_n hX (dk DX11_taken 12 rfl) rfl ?_
    refine w_iald (j := _) hX (dk DX11_taken 13 rfl) rfl rfl (show _ < 6 by omega) ?_
    refine wp_iconst (v := -1) hX (dk DX11_taken 14 rfl) (by decide) ?_
    refine wp_icmp_ne (tgt := 32) hX (dk DX11_taken 15 rfl) (by decide) (fun _ => ?_) (fun h_ => absurd h_ (c1))
    refine wp_aload_n hX (dk DX11_taken 18 rfl) rfl ?_
    refine wp_iload_n hX (dk DX11_taken 19 rfl) rfl ?_
    refine w_callV (As := [_]) lkX11_376 hX (dk DX11_taken 20 rfl) rfl rfl (by decide) hN (k_misR (d + 108) sw f g b hb) ?_
    show WP _ _ _ 37 [_, _, _, _, _] [_] _
    refine wp_if_eq (tgt := 43) hX (dk DX11_taken 21 rfl) (by decide) (fun h_ => absurd h_ (h.resolve_left c1)) (fun _ => ?_)
    refine wp_bipush (v := -12) hX (dk DX11_taken 22 rfl) (by decide) ?_
    exact wp_ireturn hX hR (dk DX11_taken 23 rfl) rfl (Nat.le_refl _) (Nat.le_refl _) (⟨rfl, rfl⟩)
theorem u_taken1 (d : Nat) (sw : Bool) (f : Nat → Nat → Int32) (g : Nat → Nat → Int64) (b k s k0 : Nat) (hb : b < 6) (hk : k < 8) (h : f 106 b = nI (10 + s)) (hs50 : s < 50) (hk0 : f 104 s = nI k0) (hk08 : k0 < 8) : CT (d + 110) 0 0 iX11_taken [.ref 81, .int (nI b), .int (nI k)] (S sw f g) (rdM g f (if junder 3 k0 (nI k) = 0 then -12 else nI k0)) := by
  refine CT.rdM ?_
  have hne : ¬ nI (10 + s) = -1 := fun q => nI_pos (n := 10 + s) (by omega) (by rw [q]; decide)
  have hj0 : jin (nI (10 + s)) 5 = 0 := jin_0 (n := 5) (by decide) (fun ⟨i, h1, h2⟩ => by have := (nI_eq (by omega) (by omega)).mp h2; omega)
  obtain ⟨J, hJ⟩ : ∃ J, J = junder 3 k0 (nI k) := ⟨_, rfl⟩
  rw [← hJ]
  refine CT.of rfl (Nat.le_of_ble_eq_true rfl) (fun X hX hR hN _ => ?_)
  have hX : Good X RX11 cX11_taken (d + 110) 0 0 := hX
  have hN : x_nl X = 5 := hN
  show WP X 0 0 0 [_, _, _, _, _] [] _
  have lo : ∀ (m up : Nat), up < 8 → htN up ≤ m → J = junder m up (nI k) → WP X 0 0 61 [some (.ref 81), some (.int (nI b)), some (.int (nI k)), some (.int (nI k0)), some (.int (nI up))] [] (S sw f g) := by
    intro m
    induction m with
    | zero =>
      intro up hu ht e
      have h0 : up = 0 := Classical.byContradiction (fun q => by have := ((ab_ok up hu).1 q).2.2; omega)
      subst h0
      rw [junder] at e
      by_cases c : nI 0 = nI k
      · rw [if_pos c] at e
        rw [e, if_neg (by decide)] at hR
        refine wp_iload hX (dk DX11_taken 36 rfl) rfl ?_
        refine wp_iload_n hX (dk DX11_taken 37 rfl) rfl ?_
        refine wp_icmp_eq (tgt := 82) hX (dk DX11_taken 38 rfl) (by decide) (fun _ => ?_) (fun h_ => absurd (c) h_)
        refine wp_iload hX (dk DX11_taken 45 rfl) rfl ?_
        refine wp_iload_n hX (dk DX11_taken 46 rfl) rfl ?_
        refine wp_icmp_ne (tgt := 92) hX (dk DX11_taken 47 rfl) (by decide) (fun h_ => absurd (c) h_) (fun _ => ?_)
        refine wp_iload_n hX (dk DX11_taken 48 rfl) rfl ?_
        refine wp_goto (tgt := 94) hX (dk DX11_taken 49 rfl) (by decide) ?_
        exact wp_ireturn hX hR (dk DX11_taken 51 rfl) rfl (Nat.le_refl _) (Nat.le_refl _) (⟨rfl, rfl⟩)
      · rw [if_neg c] at e
        rw [e, if_pos rfl] at hR
        refine wp_iload hX (dk DX11_taken 36 rfl) rfl ?_
        refine wp_iload_n hX (dk DX11_taken 37 rfl) rfl ?_
        refine wp_icmp_eq (tgt := 82) hX (dk DX11_taken 38 rfl) (by decide) (fun h_ => absurd h_ (c)) (fun _ => ?_)
        refine wp_iload hX (dk DX11_taken 39 rfl) rfl ?_
        refine wp_if_le (tgt := 82) hX (dk DX11_taken 40 rfl) (by decide) (fun _ => ?_) (fun h_ => absurd (by decide) h_)
        refine wp_iload hX (dk DX11_taken 45 rfl) rfl ?_
        refine wp_iload_n hX (dk DX11_taken 46 rfl) rfl ?_
        refine wp_icmp_ne (tgt := 92) hX (dk DX11_taken 47 rfl) (by decide) (fun _ => ?_) (fun h_ => absurd h_ (c))
        refine wp_bipush (v := -12) hX (dk DX11_taken 50 rfl) (by decide) ?_
        exact wp_ireturn hX hR (dk DX11_taken 51 rfl) rfl (Nat.le_refl _) (Nat.le_refl _) (⟨rfl, rfl⟩)
    | succ m ih =>
      intro up hu ht e
      rw [junder] at e
      by_cases c : nI up = nI k
      · rw [if_pos c] at e
        rw [e, if_neg (by decide)] at hR
        refine wp_iload hX (dk DX11_taken 36 rfl) rfl ?_
        refine wp_iload_n hX (dk DX11_taken 37 rfl) rfl ?_
        refine wp_icmp_eq (tgt := 82) hX (dk DX11_taken 38 rfl) (by decide) (fun _ => ?_) (fun h_ => absurd (c) h_)
        refine wp_iload hX (dk DX11_taken 45 rfl) rfl ?_
        refine wp_iload_n hX (dk DX11_taken 46 rfl) rfl ?_
        refine wp_icmp_ne (tgt := 92) hX (dk DX11_taken 47 rfl) (by decide) (fun h_ => absurd (c) h_) (fun _ => ?_)
        refine wp_iload_n hX (dk DX11_taken 48 rfl) rfl ?_
        refine wp_goto (tgt := 94) hX (dk DX11_taken 49 rfl) (by decide) ?_
        exact wp_ireturn hX hR (dk DX11_taken 51 rfl) rfl (Nat.le_refl _) (Nat.le_refl _) (⟨rfl, rfl⟩)
      · rw [if_neg c] at e
        by_cases c0 : up = 0
        · rw [if_pos c0] at e
          rw [e, if_pos rfl] at hR
          subst c0
          refine wp_iload hX (dk DX11_taken 36 rfl) rfl ?_
          refine wp_iload_n hX (dk DX11_taken 37 rfl) rfl ?_
          refine wp_icmp_eq (tgt := 82) hX (dk DX11_taken 38 rfl) (by decide) (fun h_ => absurd h_ (c)) (fun _ => ?_)
          refine wp_iload hX (dk DX11_taken 39 rfl) rfl ?_
          refine wp_if_le (tgt := 82) hX (dk DX11_taken 40 rfl) (by decide) (fun _ => ?_) (fun h_ => absurd (by decide) h_)
          refine wp_iload hX (dk DX11_taken 45 rfl) rfl ?_
          refine wp_iload_n hX (dk DX11_taken 46 rfl) rfl ?_
          refine wp_icmp_ne (tgt := 92) hX (dk DX11_taken 47 rfl) (by decide) (fun _ => ?_) (fun h_ => absurd h_ (c))
          refine wp_bipush (v := -12) hX (dk DX11_taken 50 rfl) (by decide) ?_
          exact wp_ireturn hX hR (dk DX11_taken 51 rfl) rfl (Nat.le_refl _) (Nat.le_refl _) (⟨rfl, rfl⟩)
        · rw [if_neg c0] at e
          obtain ⟨a1, a2, a3⟩ := (ab_ok up hu).1 c0
          refine wp_iload hX (dk DX11_taken 36 rfl) rfl ?_
          refine wp_iload_n hX (dk DX11_taken 37 rfl) rfl ?_
          refine wp_icmp_eq (tgt := 82) hX (dk DX11_taken 38 rfl) (by decide) (fun h_ => absurd h_ (c)) (fun _ => ?_)
          refine wp_iload hX (dk DX11_taken 39 rfl) rfl ?_
          refine wp_if_le (tgt := 82) hX (dk DX11_taken 40 rfl) (by decide) (fun h_ => absurd h_ (nI_nle (by omega) (by omega))) (fun _ => ?_)
          refine wp_iload hX (dk DX11_taken 41 rfl) rfl ?_
          refine w_callS (As := [_]) lkX11_361 hX (dk DX11_taken 42 rfl) rfl (by decide) (k_mabv (d + 109) up _ hu) ?_
          show WP _ _ _ 77 [_, _, _, _, _] [_] _
          refine wp_istore hX (dk DX11_taken 43 rfl) rfl hN (Nat.le_of_ble_eq_true rfl) ?_
          show WP _ _ _ 79 [_, _, _, _, _] [] _
          refine wp_goto (tgt := 61) hX (dk DX11_taken 44 rfl) (by decide) ?_
          exact ih (abN up) a2 (by omega) e
  refine wp_iload_n hX (dk DX11_taken 0 rfl) rfl ?_
  refine w_callS (As := [_]) lkX11_174 hX (dk DX11_taken 1 rfl) rfl (by decide) (k_mH1 (d + 108) sw f g b hb) ?_
  show WP _ _ _ 4 [_, _, _, _, _] [_] _
  refine wp_if_eq (tgt := 17) hX (dk DX11_taken 2 rfl) (by decide) (fun h_ => absurd h_ (by decide)) (fun _ => ?_)
  refine wp_iload_n hX (dk DX11_taken 3 rfl) rfl ?_
  refine wp_iconst (v := 0) hX (dk DX11_taken 4 rfl) (by decide) ?_
  refine wp_bipush (v := 7) hX (dk DX11_taken 5 rfl) (by decide) ?_
  refine w_callS (As := [_, _, _]) lkX11_116 hX (dk DX11_taken 6 rfl) rfl (by decide) (k_wi1 (d + 109) k 7 7 _ rfl (by decide) (by omega)) ?_
  show WP _ _ _ 14 [_, _, _, _, _] [_] _
  refine wp_if_ne (tgt := 19) hX (dk DX11_taken 7 rfl) (by decide) (fun _ => ?_) (fun h_ => absurd h_ (by decide))
  refine wp_aload_n hX (dk DX11_taken 10 rfl) rfl ?_
  refine w_getr hX flX11_84 (dk DX11_taken 11 rfl) rfl rfl ?_
  refine wp_iload_n hX (dk DX11_taken 12 rfl) rfl ?_
  refine w_iald (j := _) hX (dk DX11_taken 13 rfl) rfl rfl (show _ < 6 by omega) ?_
  rw [h]
  refine wp_iconst (v := -1) hX (dk DX11_taken 14 rfl) (by decide) ?_
  refine wp_icmp_ne (tgt := 32) hX (dk DX11_taken 15 rfl) (by decide) (fun _ => ?_) (fun h_ => absurd h_ (hne))
  refine wp_aload_n hX (dk DX11_taken 18 rfl) rfl ?_
  refine wp_iload_n hX (dk DX11_taken 19 rfl) rfl ?_
  refine w_callV (As := [_]) lkX11_376 hX (dk DX11_taken 20 rfl) rfl rfl (by decide) hN (k_misR (d + 108) sw f g b hb) ?_
  show WP _ _ _ 37 [_, _, _, _, _] [_] _
  rw [h, hj0]
  refine wp_if_eq (tgt := 43) hX (dk DX11_taken 21 rfl) (by decide) (fun _ => ?_) (fun h_ => absurd (rfl) h_)
  refine wp_aload_n hX (dk DX11_taken 24 rfl) rfl ?_
  refine w_getr hX flX11_78 (dk DX11_taken 25 rfl) rfl rfl ?_
  refine wp_aload_n hX (dk DX11_taken 26 rfl) rfl ?_
  refine w_getr hX flX11_84 (dk DX11_taken 27 rfl) rfl rfl ?_
  refine wp_iload_n hX (dk DX11_taken 28 rfl) rfl ?_
  refine w_iald (j := _) hX (dk DX11_taken 29 rfl) rfl rfl (show _ < 6 by omega) ?_
  rw [h]
  refine wp_bipush (v := 10) hX (dk DX11_taken 30 rfl) (by decide) ?_
  refine wp_isub hX (dk DX11_taken 31 rfl) ?_
  rw [show nI (10 + s) - 10 = nI s by rw [show (10 : Int32) = nI 10 from rfl, pk_sub (by omega)]; exact congrArg nI (by omega)]
  refine w_iald (j := _) hX (dk DX11_taken 32 rfl) rfl rfl (show _ < 50 by omega) ?_
  rw [hk0]
  refine wp_istore_n hX (dk DX11_taken 33 rfl) rfl rfl hN (Nat.le_of_ble_eq_true rfl) ?_
  show WP _ _ _ 58 [_, _, _, _, _] [] _
  refine wp_iload_n hX (dk DX11_taken 34 rfl) rfl ?_
  refine wp_istore hX (dk DX11_taken 35 rfl) rfl hN (Nat.le_of_ble_eq_true rfl) ?_
  show WP _ _ _ 61 [_, _, _, _, _] [] _
  exact lo 3 k0 hk08 (ab_ok k0 hk08).2.2 hJ
