/-! REFERENCE: longest, richest, with, spare: what they refuse -/
theorem u_longest0 (d : Nat) (sw : Bool) (f : Nat → Nat → Int32) (g : Nat → Nat → Int64) (m : Nat) (x k : Int32) (hm : f 81 5 = nI m) (hm6 : m ≤ 6) (h : ¬ ((∃ b, b < m ∧ x = nI b) ∧ -1 ≤ k)) : CT (d + 110) 0 0 iX11_longest [.ref 81, .int x, .int k] (S sw f g) (rdM g f (-1)) := by
  refine CT.rdM ?_
  refine CT.of rfl (Nat.le_of_ble_eq_true rfl) (fun X hX hR hN _ => ?_)
  have hX : Good X RX11 cX11_longest (d + 110) 0 0 := hX
  have hN : x_nl X = 6 := hN
  show WP X 0 0 0 [_, _, _, _, _, _] [] _
  by_cases c1 : ∃ b, b < m ∧ x = nI b
  · obtain ⟨b, hb, rfl⟩ := c1
    refine wp_aload_n hX (dk DX11_longest 0 rfl) rfl ?_
    refine wp_iload_n hX (dk DX11_longest 1 rfl) rfl ?_
    refine w_callV (As := [_]) lkX11_123 hX (dk DX11_longest 2 rfl) rfl rfl (by decide) hN (k_mB1 (d + 108) sw f g m b hm hm6 hb) ?_
    show WP _ _ _ 5 [_, _, _, _, _, _] [_] _
    refine wp_if_eq (tgt := 13) hX (dk DX11_longest 3 rfl) (by decide) (fun h_ => absurd h_ (by decide)) (fun _ => ?_)
    refine wp_iload_n hX (dk DX11_longest 4 rfl) rfl ?_
    refine wp_iconst (v := -1) hX (dk DX11_longest 5 rfl) (by decide) ?_
    refine wp_icmp_ge (tgt := 15) hX (dk DX11_longest 6 rfl) (by decide) (fun h_ => absurd h_ (fun q => h ⟨⟨b, hb, rfl⟩, q⟩)) (fun _ => ?_)
    refine wp_iconst (v := -1) hX (dk DX11_longest 7 rfl) (by decide) ?_
    exact wp_ireturn hX hR (dk DX11_longest 8 rfl) rfl (Nat.le_refl _) (Nat.le_refl _) (⟨rfl, rfl⟩)
  · refine wp_aload_n hX (dk DX11_longest 0 rfl) rfl ?_
    refine wp_iload_n hX (dk DX11_longest 1 rfl) rfl ?_
    refine w_callV (As := [_]) lkX11_123 hX (dk DX11_longest 2 rfl) rfl rfl (by decide) hN (k_mB0 (d + 108) sw f g m x hm hm6 c1) ?_
    show WP _ _ _ 5 [_, _, _, _, _, _] [_] _
    refine wp_if_eq (tgt := 13) hX (dk DX11_longest 3 rfl) (by decide) (fun _ => ?_) (fun h_ => absurd (rfl) h_)
    refine wp_iconst (v := -1) hX (dk DX11_longest 7 rfl) (by decide) ?_
    exact wp_ireturn hX hR (dk DX11_longest 8 rfl) rfl (Nat.le_refl _) (Nat.le_refl _) (⟨rfl, rfl⟩)
theorem u_richest0 (d : Nat) (sw : Bool) (f : Nat → Nat → Int32) (g : Nat → Nat → Int64) (m : Nat) (x y k : Int32) (hm : f 81 5 = nI m) (hm6 : m ≤ 6) (h : ¬ ((∃ b, b < m ∧ x = nI b) ∧ (∃ z, z < 100 ∧ y = nI z) ∧ -1 ≤ k)) : CT (d + 110) 0 0 iX11_richest [.ref 81, .int x, .int y, .int k] (S sw f g) (rdM g f (-1)) := by
  refine CT.rdM ?_
  refine CT.of rfl (Nat.le_of_ble_eq_true rfl) (fun X hX hR hN _ => ?_)
  have hX : Good X RX11 cX11_richest (d + 110) 0 0 := hX
  have hN : x_nl X = 8 := hN
  show WP X 0 0 0 [_, _, _, _, _, _, _, _] [] _
  by_cases c1 : ∃ b, b < m ∧ x = nI b
  · obtain ⟨b, hb, rfl⟩ := c1
    by_cases c2 : ∃ z, z < 100 ∧ y = nI z
    · obtain ⟨z, hz, rfl⟩ := c2
      refine wp_aload_n hX (dk DX11_richest 0 rfl) rfl ?_
      refine wp_iload_n hX (dk DX11_richest 1 rfl) rfl ?_
      refine w_callV (As := [_]) lkX11_123 hX (dk DX11_richest 2 rfl) rfl rfl (by decide) hN (k_mB1 (d + 108) sw f g m b hm hm6 hb) ?_
      show WP _ _ _ 5 [_, _, _, _, _, _, _, _] [_] _
      refine wp_if_eq (tgt := 20) hX (dk DX11_richest 3 rfl) (by decide) (fun h_ => absurd h_ (by decide)) (fun _ => ?_)
      refine wp_iload_n hX (dk DX11_richest 4 rfl) rfl ?_
      refine w_callS (As := [_]) lkX11_272 hX (dk DX11_richest 5 rfl) rfl (by decide) (k_mY1 (d + 108) sw f g z hz) ?_
      show WP _ _ _ 12 [_, _, _, _, _, _, _, _] [_] _
      refine wp_if_eq (tgt := 20) hX (dk DX11_richest 6 rfl) (by decide) (fun h_ => absurd h_ (by decide)) (fun _ => ?_)
      refine wp_iload_n hX (dk DX11_richest 7 rfl) rfl ?_
      refine wp_iconst (v := -1) hX (dk DX11_richest 8 rfl) (by decide) ?_
      refine wp_icmp_ge (tgt := 22) hX (dk DX11_richest 9 rfl) (by decide) (fun h_ => absurd h_ (fun q => h ⟨⟨b, hb, rfl⟩, ⟨z, hz, rfl⟩, q⟩)) (fun _ => ?_)
      refine wp_iconst (v := -1) hX (dk DX11_richest 10 rfl) (by decide) ?_
      exact wp_ireturn hX hR (dk DX11_richest 11 rfl) rfl (Nat.le_refl _) (Nat.le_refl _) (⟨rfl, rfl⟩)
    · refine wp_aload_n hX (dk DX11_richest 0 rfl) rfl ?_
      refine wp_iload_n hX (dk DX11_richest 1 rfl) rfl ?_
      refine w_callV (As := [_]) lkX11_123 hX (dk DX11_richest 2 rfl) rfl rfl (by decide) hN (k_mB1 (d + 108) sw f g m b hm hm6 hb) ?_
      show WP _ _ _ 5 [_, _, _, _, _, _, _, _] [_] _
      refine wp_if_eq (tgt := 20) hX (dk DX11_richest 3 rfl) (by decide) (fun h_ => absurd h_ (by decide)) (fun _ => ?_)
      refine wp_iload_n hX (dk DX11_richest 4 rfl) rfl ?_
      refine w_callS (As := [_]) lkX11_272 hX (dk DX11_richest 5 rfl) rfl (by decide) (k_mY0 (d + 108) sw f g y c2) ?_
      show WP _ _ _ 12 [_, _, _, _, _, _, _, _] [_] _
      refine wp_if_eq (tgt := 20) hX (dk DX11_richest 6 rfl) (by decide) (fun _ => ?_) (fun h_ => absurd (rfl) h_)
      refine wp_iconst (v := -1) hX (dk DX11_richest 10 rfl) (by decide) ?_
      exact wp_ireturn hX hR (dk DX11_richest 11 rfl) rfl (Nat.le_refl _) (Nat.le_refl _) (⟨rfl, rfl⟩)
  · refine wp_aload_n hX (dk DX11_richest 0 rfl) rfl ?_
    refine wp_iload_n hX (dk DX11_richest 1 rfl) rfl ?_
    refine w_callV (As := [_]) lkX11_123 hX (dk DX11_richest 2 rfl) rfl rfl (by decide) hN (k_mB0 (d + 108) sw f g m x hm hm6 c1) ?_
    show WP _ _ _ 5 [_, _, _, _, _, _, _, _] [_] _
    refine wp_if_eq (tgt := 20) hX (dk DX11_richest 3 rfl) (by decide) (fun _ => ?_) (fun h_ => absurd (rfl) h_)
    refine wp_iconst (v := -1) hX (dk DX11_richest 10 rfl) (by decide) ?_
    exact wp_ireturn hX hR (dk DX11_richest 11 rfl) rfl (Nat.le_refl _) (Nat.le_refl _) (⟨rfl, rfl⟩)
theorem u_with0 (d : Nat) (sw : Bool) (f : Nat → Nat → Int32) (g : Nat → Nat → Int64) (n m : Nat) (x y : Int32) (hn : f 81 0 = nI n) (hn10 : n ≤ 10) (hm : f 81 5 = nI m) (hm6 : m ≤ 6) (h : ¬ ((∃ b, b < m ∧ x = nI b) ∧ two n y)) : CT (d + 110) 0 0 iX11_with [.ref 81, .int x, .int y] (S sw f g) (rdM g f (-1)) := by
  refine CT.rdM ?_
  refine CT.of rfl (Nat.le_of_ble_eq_true rfl) (fun X hX hR hN _ => ?_)
  have hX : Good X RX11 cX11_with (d + 110) 0 0 := hX
  have hN : x_nl X = 3 := hN
  show WP X 0 0 0 [_, _, _] [] _
  by_cases c1 : ∃ b, b < m ∧ x = nI b
  · obtain ⟨b, hb, rfl⟩ := c1
    refine wp_aload_n hX (dk DX11_with 0 rfl) rfl ?_
    refine wp_iload_n hX (dk DX11_with 1 rfl) rfl ?_
    refine w_callV (As := [_]) lkX11_123 hX (dk DX11_with 2 rfl) rfl rfl (by decide) hN (k_mB1 (d + 108) sw f g m b hm hm6 hb) ?_
    show WP _ _ _ 5 [_, _, _] [_] _
    refine wp_if_eq (tgt := 16) hX (dk DX11_with 3 rfl) (by decide) (fun h_ => absurd h_ (by decide)) (fun _ => ?_)
    refine wp_aload_n hX (dk DX11_with 4 rfl) rfl ?_
    refine wp_iload_n hX (dk DX11_with 5 rfl) rfl ?_
    refine w_callV (As := [_]) lkX11_281 hX (dk DX11_with 6 rfl) rfl rfl (by decide) hN (k_mT0 (d + 107) sw f g n y hn hn10 (fun q => h ⟨⟨b, hb, rfl⟩, q⟩)) ?_
    show WP _ _ _ 13 [_, _, _] [_] _
    refine wp_if_ne (tgt := 18) hX (dk DX11_with 7 rfl) (by decide) (fun h_ => absurd (rfl) h_) (fun _ => ?_)
    refine wp_iconst (v := -1) hX (dk DX11_with 8 rfl) (by decide) ?_
    exact wp_ireturn hX hR (dk DX11_with 9 rfl) rfl (Nat.le_refl _) (Nat.le_refl _) (⟨rfl, rfl⟩)
  · refine wp_aload_n hX (dk DX11_with 0 rfl) rfl ?_
    refine wp_iload_n hX (dk DX11_with 1 rfl) rfl ?_
    refine w_callV (As := [_]) lkX11_123 hX (dk DX11_with 2 rfl) rfl rfl (by decide) hN (k_mB0 (d + 108) sw f g m x hm hm6 c1) ?_
    show WP _ _ _ 5 [_, _, _] [_] _
    refine wp_if_eq (tgt := 16) hX (dk DX11_with 3 rfl) (by decide) (fun _ => ?_) (fun h_ => absurd (rfl) h_)
    refine wp_iconst (v := -1) hX (dk DX11_with 8 rfl) (by decide) ?_
    exact wp_ireturn hX hR (dk DX11_with 9 rfl) rfl (Nat.le_refl _) (Nat.le_refl _) (⟨rfl, rfl⟩)
theorem u_spare0 (d : Nat) (sw : Bool) (f : Nat → Nat → Int32) (g : Nat → Nat → Int64) (m : Nat) (x y : Int32) (hm : f 81 5 = nI m) (hm6 : m ≤ 6) (h : ¬ ((∃ b, b < m ∧ x = nI b) ∧ ∃ w, w < 2 ∧ y = nI w)) : CT (d + 110) 0 0 iX11_spare [.ref 81, .int x, .int y] (S sw f g) (rdM g f (-1)) := by
  refine CT.rdM ?_
  refine CT.of rfl (Nat.le_of_ble_eq_true rfl) (fun X hX hR hN _ => ?_)
  have hX : Good X RX11 cX11_spare (d + 110) 0 0 := hX
  have hN : x_nl X = 7 := hN
  show WP X 0 0 0 [_, _, _, _, _, _, _] [] _
  by_cases c1 : ∃ b, b < m ∧ x = nI b
  · obtain ⟨b, hb, rfl⟩ := c1
    refine wp_aload_n hX (dk DX11_spare 0 rfl) rfl ?_
    refine wp_iload_n hX (dk DX11_spare 1 rfl) rfl ?_
    refine w_callV (As := [_]) lkX11_123 hX (dk DX11_spare 2 rfl) rfl rfl (by decide) hN (k_mB1 (d + 108) sw f g m b hm hm6 hb) ?_
    show WP _ _ _ 5 [_, _, _, _, _, _, _] [_] _
    refine wp_if_eq (tgt := 17) hX (dk DX11_spare 3 rfl) (by decide) (fun h_ => absurd h_ (by decide)) (fun _ => ?_)
    refine wp_iload_n hX (dk DX11_spare 4 rfl) rfl ?_
    refine wp_iconst (v := 0) hX (dk DX11_spare 5 rfl) (by decide) ?_
    refine wp_iconst (v := 1) hX (dk DX11_spare 6 rfl) (by decide) ?_
    refine w_callS (As := [_, _, _]) lkX11_116 hX (dk DX11_spare 7 rfl) rfl (by decide) (k_wi0 (d + 109) 1 y 1 _ rfl (by decide) (fun ⟨w, h1, h2⟩ => h ⟨⟨b, hb, rfl⟩, w, by omega, h2⟩)) ?_
    show WP _ _ _ 14 [_, _, _, _, _, _, _] [_] _
    refine wp_if_ne (tgt := 19) hX (dk DX11_spare 8 rfl) (by decide) (fun h_ => absurd (rfl) h_) (fun _ => ?_)
    refine wp_iconst (v := -1) hX (dk DX11_spare 9 rfl) (by decide) ?_
    exact wp_ireturn hX hR (dk DX11_spare 10 rfl) rfl (Nat.le_refl _) (Nat.le_refl _) (⟨rfl, rfl⟩)
  · refine wp_aload_n hX (dk DX11_spare 0 rfl) rfl ?_
    refine wp_iload_n hX (dk DX11_spare 1 rfl) rfl ?_
    refine w_callV (As := [_]) lkX11_123 hX (dk DX11_spare 2 rfl) rfl rfl (by decide) hN (k_mB0 (d + 108) sw f g m x hm hm6 c1) ?_
    show WP _ _ _ 5 [_, _, _, _, _, _, _] [_] _
    refine wp_if_eq (tgt := 17) hX (dk DX11_spare 3 rfl) (by decide) (fun _ => ?_) (fun h_ => absurd (rfl) h_)
    refine wp_iconst (v := -1) hX (dk DX11_spare 9 rfl) (by decide) ?_
    exact wp_ireturn hX hR (dk DX11_spare 10 rfl) rfl (Nat.le_refl _) (Nat.le_refl _) (⟨rfl, rfl⟩)
