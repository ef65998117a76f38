/-! REFERENCE: spare -/
theorem u_spareN (d : Nat) (sw : Bool) (f : Nat → Nat → Int32) (g : Nat → Nat → Int64) (m b w : Nat) (sh : Nat → Int32) (hF : mFg f 0 sh) (hm : f 81 5 = nI m) (hm6 : m ≤ 6) (hb : b < m) (hw : w < 2) : CT (d + 110) 0 0 iX11_spare [.ref 81, .int (nI b), .int (nI w)] (S sw f g) (rdM g f (-2)) := by
  have hw2 : w = 0 ∨ w = 1 := by omega
  refine CT.of rfl (Nat.le_of_ble_eq_true rfl) (fun X hX hR hN _ => ?_)
  have hX : Good X RX11 cX11_spare (d + 110) 0 0 := hX
  have hN : x_nl X = 7 := hN
  show WP X 0 0 0 [_, _, _, _, _, _, _] [] _
  rcases hw2 with rfl | rfl
  · refine wp_aload_n hX (dk DX11_spare 0 rfl) rfl ?_
    refine wp_iload_n hX (dk DX11_spare 1 rfl) rfl ?_
    refine w_callV (As := [_]) lkX11_123 hX (dk DX11_spare 2 rfl) rfl rfl (by decide) hN (k_mB1 (d + 108) sw f g m b hm hm6 hb) ?_
    show WP _ _ _ 5 [_, _, _, _, _, _, _] [_] _
    refine wp_if_eq (tgt := 17) hX (dk DX11_spare 3 rfl) (by decide) (fun h_ => absurd h_ (by decide)) (fun _ => ?_)
    refine wp_iload_n hX (dk DX11_spare 4 rfl) rfl ?_
    refine wp_iconst (v := 0) hX (dk DX11_spare 5 rfl) (by decide) ?_
    refine wp_iconst (v := 1) hX (dk DX11_spare 6 rfl) (by decide) ?_
    refine w_callS (As := [_, _, _]) lkX11_116 hX (dk DX11_spare 7 rfl) rfl (by decide) (k_wi1 (d + 109) 0 1 1 _ rfl (by decide) (by omega)) ?_
    show WP _ _ _ 14 [_, _, _, _, _, _, _] [_] _
    refine wp_if_ne (tgt := 19) hX (dk DX11_spare 8 rfl) (by decide) (fun _ => ?_) (fun h_ => absurd h_ (by decide))
    refine wp_aload_n hX (dk DX11_spare 11 rfl) rfl ?_
    refine wp_aload_n hX (dk DX11_spare 12 rfl) rfl ?_
    refine w_getr hX flX11_24 (dk DX11_spare 13 rfl) rfl rfl ?_
    refine wp_iload_n hX (dk DX11_spare 14 rfl) rfl ?_
    refine w_iald (j := _) hX (dk DX11_spare 15 rfl) rfl rfl (show _ < 6 by omega) ?_
    refine w_callVQ (As := [_]) lkX11_287 hX (dk DX11_spare 16 rfl) rfl rfl (by decide) hN (k_looks (d + 103) sw f g 0 sh _ hF) (fun v_a sw_a f_a g_a hq_a => ?_)
    obtain ⟨rfl, rfl, rfl, e1, e2⟩ := hq_a
    show WP _ _ _ 29 [_, _, _, _, _, _, _] [] _
    refine wp_bipush (v := -2) hX (dk DX11_spare 17 rfl) (by decide) ?_
    refine wp_istore_n hX (dk DX11_spare 18 rfl) rfl rfl hN (Nat.le_of_ble_eq_true rfl) ?_
    show WP _ _ _ 32 [_, _, _, _, _, _, _] [] _
    refine wp_bipush (v := -2) hX (dk DX11_spare 19 rfl) (by decide) ?_
    refine wp_istore hX (dk DX11_spare 20 rfl) rfl hN (Nat.le_of_ble_eq_true rfl) ?_
    show WP _ _ _ 36 [_, _, _, _, _, _, _] [] _
    refine wp_iconst (v := 0) hX (dk DX11_spare 21 rfl) (by decide) ?_
    refine wp_istore hX (dk DX11_spare 22 rfl) rfl hN (Nat.le_of_ble_eq_true rfl) ?_
    show WP _ _ _ 39 [_, _, _, _, _, _, _] [] _
    refine wp_iload hX (dk DX11_spare 23 rfl) rfl ?_
    refine wp_aload_n hX (dk DX11_spare 24 rfl) rfl ?_
    refine w_geti hX flX11_112 (dk DX11_spare 25 rfl) (by decide) rfl ?_
    rw [show f_a 81 0 = nI 0 by rw [e1 81 (by decide)]; exact hF.1]
    refine wp_icmp_ge (tgt := 92) hX (dk DX11_spare 26 rfl) (by decide) (fun _ => ?_) (fun h_ => absurd (by decide) h_)
    refine wp_iload_n hX (dk DX11_spare 50 rfl) rfl ?_
    refine wp_if_ne (tgt := 100) hX (dk DX11_spare 51 rfl) (by decide) (fun h_ => absurd (rfl) h_) (fun _ => ?_)
    refine wp_iload_n hX (dk DX11_spare 52 rfl) rfl ?_
    refine wp_goto (tgt := 102) hX (dk DX11_spare 53 rfl) (by decide) ?_
    exact wp_ireturn hX hR (dk DX11_spare 55 rfl) rfl (Nat.le_refl _) (Nat.le_refl _) (⟨_, _, _, rfl, rfl, rfl, ⟨fun b2 h1 h2 h3 => e1 b2 (by omega), fun i _ => by rw [e1 81 (by decide)]⟩⟩)
  · refine wp_aload_n hX (dk DX11_spare 0 rfl) rfl ?_
    refine wp_iload_n hX (dk DX11_spare 1 rfl) rfl ?_
    refine w_callV (As := [_]) lkX11_123 hX (dk DX11_spare 2 rfl) rfl rfl (by decide) hN (k_mB1 (d + 108) sw f g m b hm hm6 hb) ?_
    show WP _ _ _ 5 [_, _, _, _, _, _, _] [_] _
    refine wp_if_eq (tgt := 17) hX (dk DX11_spare 3 rfl) (by decide) (fun h_ => absurd h_ (by decide)) (fun _ => ?_)
    refine wp_iload_n hX (dk DX11_spare 4 rfl) rfl ?_
    refine wp_iconst (v := 0) hX (dk DX11_spare 5 rfl) (by decide) ?_
    refine wp_iconst (v := 1) hX (dk DX11_spare 6 rfl) (by decide) ?_
    refine w_callS (As := [_, _, _]) lkX11_116 hX (dk DX11_spare 7 rfl) rfl (by decide) (k_wi1 (d + 109) 1 1 1 _ rfl (by decide) (by omega)) ?_
    show WP _ _ _ 14 [_, _, _, _, _, _, _] [_] _
    refine wp_if_ne (tgt := 19) hX (dk DX11_spare 8 rfl) (by decide) (fun _ => ?_) (fun h_ => absurd h_ (by decide))
    refine wp_aload_n hX (dk DX11_spare 11 rfl) rfl ?_
    refine wp_aload_n hX (dk DX11_spare 12 rfl) rfl ?_
    refine w_getr hX flX11_24 (dk DX11_spare 13 rfl) rfl rfl ?_
    refine wp_iload_n hX (dk DX11_spare 14 rfl) rfl ?_
    refine w_iald (j := _) hX (dk DX11_spare 15 rfl) rfl rfl (show _ < 6 by omega) ?_
    refine w_callVQ (As := [_]) lkX11_287 hX (dk DX11_spare 16 rfl) rfl rfl (by decide) hN (k_looks (d + 103) sw f g 0 sh _ hF) (fun v_a sw_a f_a g_a hq_a => ?_)
    obtain ⟨rfl, rfl, rfl, e1, e2⟩ := hq_a
    show WP _ _ _ 29 [_, _, _, _, _, _, _] [] _
    refine wp_bipush (v := -2) hX (dk DX11_spare 17 rfl) (by decide) ?_
    refine wp_istore_n hX (dk DX11_spare 18 rfl) rfl rfl hN (Nat.le_of_ble_eq_true rfl) ?_
    show WP _ _ _ 32 [_, _, _, _, _, _, _] [] _
    refine wp_bipush (v := -2) hX (dk DX11_spare 19 rfl) (by decide) ?_
    refine wp_istore hX (dk DX11_spare 20 rfl) rfl hN (Nat.le_of_ble_eq_true rfl) ?_
    show WP _ _ _ 36 [_, _, _, _, _, _, _] [] _
    refine wp_iconst (v := 0) hX (dk DX11_spare 21 rfl) (by decide) ?_
    refine wp_istore hX (dk DX11_spare 22 rfl) rfl hN (Nat.le_of_ble_eq_true rfl) ?_
    show WP _ _ _ 39 [_, _, _, _, _, _, _] [] _
    refine wp_iload hX (dk DX11_spare 23 rfl) rfl ?_
    refine wp_aload_n hX (dk DX11_spare 24 rfl) rfl ?_
    refine w_geti hX flX11_112 (dk DX11_spare 25 rfl) (by decide) rfl ?_
    rw [show f_a 81 0 = nI 0 by rw [e1 81 (by decide)]; exact hF.1]
    refine wp_icmp_ge (tgt := 92) hX (dk DX11_spare 26 rfl) (by decide) (fun _ => ?_) (fun h_ => absurd (by decide) h_)
    refine wp_iload_n hX (dk DX11_spare 50 rfl) rfl ?_
    refine wp_if_ne (tgt := 100) hX (dk DX11_spare 51 rfl) (by decide) (fun _ => ?_) (fun h_ => absurd h_ (by decide))
    refine wp_iload hX (dk DX11_spare 54 rfl) rfl ?_
    exact wp_ireturn hX hR (dk DX11_spare 55 rfl) rfl (Nat.le_refl _) (Nat.le_refl _) (⟨_, _, _, rfl, rfl, rfl, ⟨fun b2 h1 h2 h3 => e1 b2 (by omega), fun i _ => by rw [e1 81 (by decide)]⟩⟩)
