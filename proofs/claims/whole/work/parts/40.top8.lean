/-! THE CLASS'S CALLS: years, image, changes, stones, shelves -/
theorem t_pass0 (d : Nat) (sw : Bool) (f : Nat → Nat → Int32) (g : Nat → Nat → Int64) (x : Int32) (h : ¬ ∃ k, 1 ≤ k ∧ k < 100 ∧ x = nI k) : CT (d + 110) 0 0 iX10_pass [.ref 0, .int x] (S sw f g) (rdC g f (-1)) := by
  refine CT.rdC ?_
  refine CT.of rfl (Nat.le_of_ble_eq_true rfl) (fun X hX hR hN _ => ?_)
  have hX : Good X RX10 cX10_pass (d + 110) 0 0 := hX
  have hN : x_nl X = 2 := hN
  show WP X 0 0 0 [_, _] [] _
  refine wp_iload_n hX (dk DX10_pass 0 rfl) rfl ?_
  refine wp_iconst (v := 1) hX (dk DX10_pass 1 rfl) (by decide) ?_
  refine wp_icmp_lt (tgt := 11) hX (dk DX10_pass 2 rfl) (by decide) (fun h2 => ?_) (fun h2 => ?_)
  · refine wp_iconst (v := -1) hX (dk DX10_pass 6 rfl) (by decide) ?_
    exact wp_ireturn hX hR (dk DX10_pass 7 rfl) rfl (Nat.le_refl _) (Nat.le_refl _) (⟨rfl, rfl⟩)
  · refine wp_iload_n hX (dk DX10_pass 3 rfl) rfl ?_
    refine wp_bipush (v := 99) hX (dk DX10_pass 4 rfl) (by decide) ?_
    refine wp_icmp_le (tgt := 13) hX (dk DX10_pass 5 rfl) (by decide) (fun h8 => ?_) (fun h8 => ?_)
    · refine absurd ?_ h
      rw [k99] at h8
      obtain ⟨k, k1, rfl⟩ := rg_le2 (x := x) (by decide) (fun e => h2 (Int32.lt_trans e (by decide))) h8
      exact ⟨k, Nat.le_of_not_lt (fun c => h2 (nI_lt (a := k) (b := 1) c (by decide))), by omega, rfl⟩
    · refine wp_iconst (v := -1) hX (dk DX10_pass 6 rfl) (by decide) ?_
      exact wp_ireturn hX hR (dk DX10_pass 7 rfl) rfl (Nat.le_refl _) (Nat.le_refl _) (⟨rfl, rfl⟩)
theorem t_pass1 (d : Nat) (sw : Bool) (f : Nat → Nat → Int32) (g : Nat → Nat → Int64) (k : Nat) (hk1 : 1 ≤ k) (hk : k < 100) : CT (d + 110) 0 0 iX10_pass [.ref 0, .int (nI k)] (S sw f g) (QR (some (.int (if f 64 3 + nI k ≤ 99 then f 64 3 + nI k else -5))) (S sw (if f 64 3 + nI k ≤ 99 then u2 f 64 3 (f 64 3 + nI k) else f) g)) := by
  refine CT.of rfl (Nat.le_of_ble_eq_true rfl) (fun X hX hR hN _ => ?_)
  have hX : Good X RX10 cX10_pass (d + 110) 0 0 := hX
  have hN : x_nl X = 2 := hN
  show WP X 0 0 0 [_, _] [] _
  refine wp_iload_n hX (dk DX10_pass 0 rfl) rfl ?_
  refine wp_iconst (v := 1) hX (dk DX10_pass 1 rfl) (by decide) ?_
  refine wp_icmp_lt (tgt := 11) hX (dk DX10_pass 2 rfl) (by decide) (fun h_ => absurd h_ (nI_nlt (b := 1) (by omega) (by omega))) (fun _ => ?_)
  refine wp_iload_n hX (dk DX10_pass 3 rfl) rfl ?_
  refine wp_bipush (v := 99) hX (dk DX10_pass 4 rfl) (by decide) ?_
  refine wp_icmp_le (tgt := 13) hX (dk DX10_pass 5 rfl) (by decide) (fun _ => ?_) (fun h_ => absurd (by rw [k99]; exact nI_le (by omega) (by omega)) h_)
  refine wp_aload_n hX (dk DX10_pass 8 rfl) rfl ?_
  refine w_getr hX flX10_51 (dk DX10_pass 9 rfl) rfl rfl ?_
  refine wp_iload_n hX (dk DX10_pass 10 rfl) rfl ?_
  refine w_callV (As := [_]) lkX10_280 hX (dk DX10_pass 11 rfl) rfl rfl (by decide) hN (k_letPass (d + 109) sw f g (nI k)) ?_
  show WP _ _ _ 21 [_, _] [_] _
  exact wp_ireturn hX hR (dk DX10_pass 12 rfl) rfl (Nat.le_refl _) (Nat.le_refl _) (⟨rfl, rfl⟩)
theorem t_led0 (d : Nat) (sw : Bool) (f : Nat → Nat → Int32) (g : Nat → Nat → Int64) (x : Int32) (h : ¬ ∃ k, k < 4 ∧ x = nI k) : CT (d + 110) 0 0 iX10_led [.ref 0, .int x] (S sw f g) (rdC g f (-1)) := by
  refine CT.rdC ?_
  refine CT.of rfl (Nat.le_of_ble_eq_true rfl) (fun X hX hR hN _ => ?_)
  have hX : Good X RX10 cX10_led (d + 110) 0 0 := hX
  have hN : x_nl X = 2 := hN
  show WP X 0 0 0 [_, _] [] _
  refine wp_iload_n hX (dk DX10_led 0 rfl) rfl ?_
  refine wp_if_lt (tgt := 20) hX (dk DX10_led 1 rfl) (by decide) (fun h1 => ?_) (fun h1 => ?_)
  · refine wp_iconst (v := -1) hX (dk DX10_led 10 rfl) (by decide) ?_
    exact wp_ireturn hX hR (dk DX10_led 11 rfl) rfl (Nat.le_refl _) (Nat.le_refl _) (⟨rfl, rfl⟩)
  · refine wp_iload_n hX (dk DX10_led 2 rfl) rfl ?_
    refine wp_iconst (v := 4) hX (dk DX10_led 3 rfl) (by decide) ?_
    refine wp_icmp_ge (tgt := 20) hX (dk DX10_led 4 rfl) (by decide) (fun h6 => ?_) (fun h6 => ?_)
    · refine wp_iconst (v := -1) hX (dk DX10_led 10 rfl) (by decide) ?_
      exact wp_ireturn hX hR (dk DX10_led 11 rfl) rfl (Nat.le_refl _) (Nat.le_refl _) (⟨rfl, rfl⟩)
    · exact absurd (rg_lt (k := 4) (by decide) h1 h6) h
theorem t_led1 (d : Nat) (sw : Bool) (f : Nat → Nat → Int32) (g : Nat → Nat → Int64) (k : Nat) (hk : k < 4) : CT (d + 110) 0 0 iX10_led [.ref 0, .int (nI k)] (S sw f g) (rdC g f (f 64 k)) := by
  refine CT.rdC ?_
  refine CT.of rfl (Nat.le_of_ble_eq_true rfl) (fun X hX hR hN _ => ?_)
  have hX : Good X RX10 cX10_led (d + 110) 0 0 := hX
  have hN : x_nl X = 2 := hN
  show WP X 0 0 0 [_, _] [] _
  refine wp_iload_n hX (dk DX10_led 0 rfl) rfl ?_
  refine wp_if_lt (tgt := 20) hX (dk DX10_led 1 rfl) (by decide) (fun h_ => absurd h_ (nI_pos (by omega))) (fun _ => ?_)
  refine wp_iload_n hX (dk DX10_led 2 rfl) rfl ?_
  refine wp_iconst (v := 4) hX (dk DX10_led 3 rfl) (by decide) ?_
  refine wp_icmp_ge (tgt := 20) hX (dk DX10_led 4 rfl) (by decide) (fun h_ => absurd h_ (nI_ge (b := 4) (by omega) (by omega))) (fun _ => ?_)
  refine wp_aload_n hX (dk DX10_led 5 rfl) rfl ?_
  refine w_getr hX flX10_51 (dk DX10_led 6 rfl) rfl rfl ?_
  refine wp_iload_n hX (dk DX10_led 7 rfl) rfl ?_
  refine w_callV (As := [_]) lkX10_134 hX (dk DX10_led 8 rfl) rfl rfl (by decide) hN (k_ledger (d + 109) sw f g k hk) ?_
  show WP _ _ _ 17 [_, _] [_] _
  refine wp_goto (tgt := 21) hX (dk DX10_led 9 rfl) (by decide) ?_
  exact wp_ireturn hX hR (dk DX10_led 11 rfl) rfl (Nat.le_refl _) (Nat.le_refl _) (⟨rfl, rfl⟩)
theorem t_image (d : Nat) (sw : Bool) (f : Nat → Nat → Int32) (g : Nat → Nat → Int64) (m : Nat) (hm : f 61 6 = nI m) (hm6 : m ≤ 6) : CT (d + 110) 0 0 iX10_image [.ref 0] (S sw f g) (QR (some (.int (jyst f m 64 0))) (S sw (jyst f m) g)) := by
  refine CT.of rfl (Nat.le_of_ble_eq_true rfl) (fun X hX hR hN _ => ?_)
  have hX : Good X RX10 cX10_image (d + 110) 0 0 := hX
  have hN : x_nl X = 1 := hN
  show WP X 0 0 0 [_] [] _
  refine wp_aload_n hX (dk DX10_image 0 rfl) rfl ?_
  refine w_getr hX flX10_51 (dk DX10_image 1 rfl) rfl rfl ?_
  refine w_callV (As := []) lkX10_283 hX (dk DX10_image 2 rfl) rfl rfl (by decide) hN (k_store (d + 108) sw f g m hm6 hm) ?_
  show WP _ _ _ 7 [_] [] _
  refine wp_aload_n hX (dk DX10_image 3 rfl) rfl ?_
  refine w_getr hX flX10_51 (dk DX10_image 4 rfl) rfl rfl ?_
  refine wp_iconst (v := 0) hX (dk DX10_image 5 rfl) (by decide) ?_
  refine w_callV (As := [_]) lkX10_134 hX (dk DX10_image 6 rfl) rfl rfl (by decide) hN (k_ledger (d + 109) sw _ g 0 (by decide)) ?_
  show WP _ _ _ 15 [_] [_] _
  exact wp_ireturn hX hR (dk DX10_image 7 rfl) rfl (Nat.le_refl _) (Nat.le_refl _) (⟨rfl, rfl⟩)
theorem t_back0 (d : Nat) (sw : Bool) (f : Nat → Nat → Int32) (g : Nat → Nat → Int64) (h : f 61 8 = 0) : CT (d + 110) 0 0 iX10_back [.ref 0] (S sw f g) (rdC g f (-5)) := by
  refine CT.rdC ?_
  refine CT.of rfl (Nat.le_of_ble_eq_true rfl) (fun X hX hR hN _ => ?_)
  have hX : Good X RX10 cX10_back (d + 110) 0 0 := hX
  have hN : x_nl X = 1 := hN
  show WP X 0 0 0 [_] [] _
  refine wp_aload_n hX (dk DX10_back 0 rfl) rfl ?_
  refine w_getr hX flX10_51 (dk DX10_back 1 rfl) rfl rfl ?_
  refine w_callV (As := []) lkX10_286 hX (dk DX10_back 2 rfl) rfl rfl (by decide) hN (k_restore0 (d + 108) sw f g h) ?_
  show WP _ _ _ 7 [_] [_] _
  refine wp_if_eq (tgt := 21) hX (dk DX10_back 3 rfl) (by decide) (fun _ => ?_) (fun h_ => absurd (rfl) h_)
  refine wp_bipush (v := -5) hX (dk DX10_back 9 rfl) (by decide) ?_
  exact wp_ireturn hX hR (dk DX10_back 10 rfl) rfl (Nat.le_refl _) (Nat.le_refl _) (⟨rfl, rfl⟩)
theorem t_back1 (d : Nat) (sw : Bool) (f : Nat → Nat → Int32) (g : Nat → Nat → Int64) (m : Nat) (hm6 : m ≤ 6) (h : ¬ f 61 8 = 0) (h7 : f 61 7 = nI m) : CT (d + 110) 0 0 iX10_back [.ref 0] (S sw f g) (QR (some (.int (jyre f m 64 0))) (S sw (jyre f m) g)) := by
  refine CT.of rfl (Nat.le_of_ble_eq_true rfl) (fun X hX hR hN _ => ?_)
  have hX : Good X RX10 cX10_back (d + 110) 0 0 := hX
  have hN : x_nl X = 1 := hN
  show WP X 0 0 0 [_] [] _
  refine wp_aload_n hX (dk DX10_back 0 rfl) rfl ?_
  refine w_getr hX flX10_51 (dk DX10_back 1 rfl) rfl rfl ?_
  refine w_callV (As := []) lkX10_286 hX (dk DX10_back 2 rfl) rfl rfl (by decide) hN (k_restore (d + 108) sw f g m hm6 h h7) ?_
  show WP _ _ _ 7 [_] [_] _
  refine wp_if_eq (tgt := 21) hX (dk DX10_back 3 rfl) (by decide) (fun h_ => absurd h_ (by decide)) (fun _ => ?_)
  refine wp_aload_n hX (dk DX10_back 4 rfl) rfl ?_
  refine w_getr hX flX10_51 (dk DX10_back 5 rfl) rfl rfl ?_
  refine wp_iconst (v := 0) hX (dk DX10_back 6 rfl) (by decide) ?_
  refine w_callV (As := [_]) lkX10_134 hX (dk DX10_back 7 rfl) rfl rfl (by decide) hN (k_ledger (d + 109) sw _ g 0 (by decide)) ?_
  show WP _ _ _ 18 [_] [_] _
  refine wp_goto (tgt := 23) hX (dk DX10_back 8 rfl) (by decide) ?_
  exact wp_ireturn hX hR (dk DX10_back 10 rfl) rfl (Nat.le_refl _) (Nat.le_refl _) (⟨rfl, rfl⟩)
theorem t_undo0 (d : Nat) (sw : Bool) (f : Nat → Nat → Int32) (g : Nat → Nat → Int64) (h : f 68 1 = nI 0) : CT (d + 110) 0 0 iX10_undo [.ref 0] (S sw f g) (rdC g f (-5)) := by
  refine CT.rdC ?_
  refine CT.of rfl (Nat.le_of_ble_eq_true rfl) (fun X hX hR hN _ => ?_)
  have hX : Good X RX10 cX10_undo (d + 110) 0 0 := hX
  have hN : x_nl X = 1 := hN
  show WP X 0 0 0 [_] [] _
  refine wp_aload_n hX (dk DX10_undo 0 rfl) rfl ?_
  refine w_getr hX flX10_58 (dk DX10_undo 1 rfl) rfl rfl ?_
  refine wp_aload_n hX (dk DX10_undo 2 rfl) rfl ?_
  refine w_getr hX flX10_10 (dk DX10_undo 3 rfl) rfl rfl ?_
  refine w_callV (As := [_]) lkX10_290 hX (dk DX10_undo 4 rfl) rfl rfl (by decide) hN (k_takeBack0 (d + 108) sw f g h) ?_
  show WP _ _ _ 11 [_] [_] _
  exact wp_ireturn hX hR (dk DX10_undo 5 rfl) rfl (Nat.le_refl _) (Nat.le_refl _) (⟨rfl, rfl⟩)
theorem t_undo1 (d : Nat) (sw : Bool) (f : Nat → Nat → Int32) (g : Nat → Nat → Int64) (n i w : Nat) (hn : n < 40) (h : f 68 1 = nI (n + 1)) (hi : f 69 (n * 4) = nI i) (hw : f 69 (n * 4 + 1) = nI w) (hi10 : i < 10) (hw3 : w < 3) : CT (d + 110) 0 0 iX10_undo [.ref 0] (S sw f g) (QR (some (.int (nI n))) (S sw (u2 (u2 (u2 f 68 1 (nI n)) 68 2 (f 68 2 + 1)) 3 (i * 3 + w) (f 69 (n * 4 + 2))) g)) := by
  refine CT.of rfl (Nat.le_of_ble_eq_true rfl) (fun X hX hR hN _ => ?_)
  have hX : Good X RX10 cX10_undo (d + 110) 0 0 := hX
  have hN : x_nl X = 1 := hN
  show WP X 0 0 0 [_] [] _
  refine wp_aload_n hX (dk DX10_undo 0 rfl) rfl ?_
  refine w_getr hX flX10_58 (dk DX10_undo 1 rfl) rfl rfl ?_
  refine wp_aload_n hX (dk DX10_undo 2 rfl) rfl ?_
  refine w_getr hX flX10_10 (dk DX10_undo 3 rfl) rfl rfl ?_
  refine w_callV (As := [_]) lkX10_290 hX (dk DX10_undo 4 rfl) rfl rfl (by decide) hN (k_takeBack (d + 108) sw f g n i w hn h hi hw hi10 hw3) ?_
  show WP _ _ _ 11 [_] [_] _
  exact wp_ireturn hX hR (dk DX10_undo 5 rfl) rfl (Nat.le_refl _) (Nat.le_refl _) (⟨rfl, rfl⟩)
theorem t_redo0 (d : Nat) (sw : Bool) (f : Nat → Nat → Int32) (g : Nat → Nat → Int64) (h : f 68 2 = nI 0) : CT (d + 110) 0 0 iX10_redo [.ref 0] (S sw f g) (rdC g f (-5)) := by
  refine CT.rdC ?_
  refine CT.of rfl (Nat.le_of_ble_eq_true rfl) (fun X hX hR hN _ => ?_)
  have hX : Good X RX10 cX10_redo (d + 110) 0 0 := hX
  have hN : x_nl X = 1 := hN
  show WP X 0 0 0 [_] [] _
  refine wp_aload_n hX (dk DX10_redo 0 rfl) rfl ?_
  refine w_getr hX flX10_58 (dk DX10_redo 1 rfl) rfl rfl ?_
  refine wp_aload_n hX (dk DX10_redo 2 rfl) rfl ?_
  refine w_getr hX flX10_10 (dk DX10_redo 3 rfl) rfl rfl ?_
  refine w_callV (As := [_]) lkX10_294 hX (dk DX10_redo 4 rfl) rfl rfl (by decide) hN (k_doAgain0 (d + 108) sw f g h) ?_
  show WP _ _ _ 11 [_] [_] _
  exact wp_ireturn hX hR (dk DX10_redo 5 rfl) rfl (Nat.le_refl _) (Nat.le_refl _) (⟨rfl, rfl⟩)
theorem t_redo1 (d : Nat) (sw : Bool) (f : Nat → Nat → Int32) (g : Nat → Nat → Int64) (n m i w : Nat) (hn : n < 40) (hm : m < 40) (h : f 68 1 = nI n) (h2 : f 68 2 = nI (m + 1)) (hi : f 69 (n * 4) = nI i) (hw : f 69 (n * 4 + 1) = nI w) (hi10 : i < 10) (hw3 : w < 3) : CT (d + 110) 0 0 iX10_redo [.ref 0] (S sw f g) (QR (some (.int (nI m))) (S sw (u2 (u2 (u2 f 3 (i * 3 + w) (f 69 (n * 4 + 3))) 68 1 (nI (n + 1))) 68 2 (nI m)) g)) := by
  refine CT.of rfl (Nat.le_of_ble_eq_true rfl) (fun X hX hR hN _ => ?_)
  have hX : Good X RX10 cX10_redo (d + 110) 0 0 := hX
  have hN : x_nl X = 1 := hN
  show WP X 0 0 0 [_] [] _
  refine wp_aload_n hX (dk DX10_redo 0 rfl) rfl ?_
  refine w_getr hX flX10_58 (dk DX10_redo 1 rfl) rfl rfl ?_
  refine wp_aload_n hX (dk DX10_redo 2 rfl) rfl ?_
  refine w_getr hX flX10_10 (dk DX10_redo 3 rfl) rfl rfl ?_
  refine w_callV (As := [_]) lkX10_294 hX (dk DX10_redo 4 rfl) rfl rfl (by decide) hN (k_doAgain (d + 108) sw f g n m i w hn hm h h2 hi hw hi10 hw3) ?_
  show WP _ _ _ 11 [_] [_] _
  exact wp_ireturn hX hR (dk DX10_redo 5 rfl) rfl (Nat.le_refl _) (Nat.le_refl _) (⟨rfl, rfl⟩)
theorem t_body0 (d : Nat) (sw : Bool) (f : Nat → Nat → Int32) (g : Nat → Nat → Int64) (x : Int32) (h : ¬ ∃ k, k < 8 ∧ x = nI k) : CT (d + 110) 0 0 iX10_body [.ref 0, .int x] (S sw f g) (rdC g f (-1)) := by
  refine CT.rdC ?_
  refine CT.of rfl (Nat.le_of_ble_eq_true rfl) (fun X hX hR hN _ => ?_)
  have hX : Good X RX10 cX10_body (d + 110) 0 0 := hX
  have hN : x_nl X = 2 := hN
  show WP X 0 0 0 [_, _] [] _
  refine wp_iload_n hX (dk DX10_body 0 rfl) rfl ?_
  refine wp_if_lt (tgt := 21) hX (dk DX10_body 1 rfl) (by decide) (fun h1 => ?_) (fun h1 => ?_)
  · refine wp_iconst (v := -1) hX (dk DX10_body 10 rfl) (by decide) ?_
    exact wp_ireturn hX hR (dk DX10_body 11 rfl) rfl (Nat.le_refl _) (Nat.le_refl _) (⟨rfl, rfl⟩)
  · refine wp_iload_n hX (dk DX10_body 2 rfl) rfl ?_
    refine wp_bipush (v := 8) hX (dk DX10_body 3 rfl) (by decide) ?_
    refine wp_icmp_ge (tgt := 21) hX (dk DX10_body 4 rfl) (by decide) (fun h7 => ?_) (fun h7 => ?_)
    · refine wp_iconst (v := -1) hX (dk DX10_body 10 rfl) (by decide) ?_
      exact wp_ireturn hX hR (dk DX10_body 11 rfl) rfl (Nat.le_refl _) (Nat.le_refl _) (⟨rfl, rfl⟩)
    · exact absurd (rg_lt (k := 8) (by decide) h1 h7) h
theorem t_bodyF (d : Nat) (sw : Bool) (f : Nat → Nat → Int32) (g : Nat → Nat → Int64) (k : Nat) (hk : k < 8) (h : f 70 2 = nI 50) : CT (d + 110) 0 0 iX10_body [.ref 0, .int (nI k)] (S sw f g) (rdC g f (-3)) := by
  refine CT.rdC ?_
  refine CT.of rfl (Nat.le_of_ble_eq_true rfl) (fun X hX hR hN _ => ?_)
  have hX : Good X RX10 cX10_body (d + 110) 0 0 := hX
  have hN : x_nl X = 2 := hN
  show WP X 0 0 0 [_, _] [] _
  refine wp_iload_n hX (dk DX10_body 0 rfl) rfl ?_
  refine wp_if_lt (tgt := 21) hX (dk DX10_body 1 rfl) (by decide) (fun h_ => absurd h_ (nI_pos (by omega))) (fun _ => ?_)
  refine wp_iload_n hX (dk DX10_body 2 rfl) rfl ?_
  refine wp_bipush (v := 8) hX (dk DX10_body 3 rfl) (by decide) ?_
  refine wp_icmp_ge (tgt := 21) hX (dk DX10_body 4 rfl) (by decide) (fun h_ => absurd h_ (nI_ge (b := 8) (by omega) (by omega))) (fun _ => ?_)
  refine wp_aload_n hX (dk DX10_body 5 rfl) rfl ?_
  refine w_getr hX flX10_65 (dk DX10_body 6 rfl) rfl rfl ?_
  refine wp_iload_n hX (dk DX10_body 7 rfl) rfl ?_
  refine w_callV (As := [_]) lkX10_297 hX (dk DX10_body 8 rfl) rfl rfl (by decide) hN (k_stadd_full (d + 109) sw f g _ h) ?_
  show WP _ _ _ 18 [_, _] [_] _
  refine wp_goto (tgt := 22) hX (dk DX10_body 9 rfl) (by decide) ?_
  exact wp_ireturn hX hR (dk DX10_body 11 rfl) rfl (Nat.le_refl _) (Nat.le_refl _) (⟨rfl, rfl⟩)
theorem t_body1 (d : Nat) (sw : Bool) (f : Nat → Nat → Int32) (g : Nat → Nat → Int64) (n k : Nat) (hk : k < 8) (hn : n < 50) (h : f 70 2 = nI n) : CT (d + 110) 0 0 iX10_body [.ref 0, .int (nI k)] (S sw f g) (QR (some (.int (nI n))) (S sw (u2 (u2 f 71 n (nI k)) 70 2 (nI (n + 1))) g)) := by
  refine CT.of rfl (Nat.le_of_ble_eq_true rfl) (fun X hX hR hN _ => ?_)
  have hX : Good X RX10 cX10_body (d + 110) 0 0 := hX
  have hN : x_nl X = 2 := hN
  show WP X 0 0 0 [_, _] [] _
  refine wp_iload_n hX (dk DX10_body 0 rfl) rfl ?_
  refine wp_if_lt (tgt := 21) hX (dk DX10_body 1 rfl) (by decide) (fun h_ => absurd h_ (nI_pos (by omega))) (fun _ => ?_)
  refine wp_iload_n hX (dk DX10_body 2 rfl) rfl ?_
  refine wp_bipush (v := 8) hX (dk DX10_body 3 rfl) (by decide) ?_
  refine wp_icmp_ge (tgt := 21) hX (dk DX10_body 4 rfl) (by decide) (fun h_ => absurd h_ (nI_ge (b := 8) (by omega) (by omega))) (fun _ => ?_)
  refine wp_aload_n hX (dk DX10_body 5 rfl) rfl ?_
  refine w_getr hX flX10_65 (dk DX10_body 6 rfl) rfl rfl ?_
  refine wp_iload_n hX (dk DX10_body 7 rfl) rfl ?_
  refine w_callV (As := [_]) lkX10_297 hX (dk DX10_body 8 rfl) rfl rfl (by decide) hN (k_stadd (d + 109) sw f g n _ hn h) ?_
  show WP _ _ _ 18 [_, _] [_] _
  refine wp_goto (tgt := 22) hX (dk DX10_body 9 rfl) (by decide) ?_
  exact wp_ireturn hX hR (dk DX10_body 11 rfl) rfl (Nat.le_refl _) (Nat.le_refl _) (⟨rfl, rfl⟩)
theorem t_act0 (d : Nat) (sw : Bool) (f : Nat → Nat → Int32) (g : Nat → Nat → Int64) (c : Nat) (x y v : Int32) (hc : f 70 2 = nI c) (hc50 : c ≤ 50) (h : ¬ ((∃ i, i < c ∧ x = nI i) ∧ ∃ a, a < 4 ∧ y = nI a)) : CT (d + 110) 0 0 iX10_act [.ref 0, .int x, .int y, .int v] (S sw f g) (QR (some (.int 0)) (S sw (u2 f 70 3 0) g)) := by
  refine CT.of rfl (Nat.le_of_ble_eq_true rfl) (fun X hX hR hN _ => ?_)
  have hX : Good X RX10 cX10_act (d + 110) 0 0 := hX
  have hN : x_nl X = 4 := hN
  show WP X 0 0 0 [_, _, _, _] [] _
  refine wp_aload_n hX (dk DX10_act 0 rfl) rfl ?_
  refine w_getr hX flX10_65 (dk DX10_act 1 rfl) rfl rfl ?_
  refine wp_iload_n hX (dk DX10_act 2 rfl) rfl ?_
  refine wp_iload_n hX (dk DX10_act 3 rfl) rfl ?_
  refine wp_iload_n hX (dk DX10_act 4 rfl) rfl ?_
  refine w_callV (As := [_, _, _]) lkX10_298 hX (dk DX10_act 5 rfl) rfl rfl (by decide) hN (k_start0 (d + 108) sw f g x y v (fun q => h ⟨jin_ex (by omega) (by rw [← hc, q.1]; decide), rg_lt (k := 4) (by decide) q.2.1 (Int32.not_le.mpr q.2.2)⟩)) ?_
  show WP _ _ _ 10 [_, _, _, _] [_] _
  exact wp_ireturn hX hR (dk DX10_act 6 rfl) rfl (Nat.le_refl _) (Nat.le_refl _) (⟨rfl, rfl⟩)
theorem t_act1 (d : Nat) (sw : Bool) (f : Nat → Nat → Int32) (g : Nat → Nat → Int64) (c n k0 a : Nat) (v : Int32) (hc : f 70 2 = nI c) (hc50 : c ≤ 50) (hn : n < c) (hk : k0 < 8) (ha : a < 4) (hf : f 71 n = nI k0) : CT (d + 110) 0 0 iX10_act [.ref 0, .int (nI n), .int (nI a), .int v] (S sw f g) (QS (fun r _ f2 g2 => r = some (.int (jV k0 (nI n) 40 k0 a v)) ∧ g2 = g ∧ trSm f f2 ∧ trOk f2 (jT k0 40 k0 a))) := by
  refine CT.of rfl (Nat.le_of_ble_eq_true rfl) (fun X hX hR hN _ => ?_)
  have hX : Good X RX10 cX10_act (d + 110) 0 0 := hX
  have hN : x_nl X = 4 := hN
  show WP X 0 0 0 [_, _, _, _] [] _
  refine wp_aload_n hX (dk DX10_act 0 rfl) rfl ?_
  refine w_getr hX flX10_65 (dk DX10_act 1 rfl) rfl rfl ?_
  refine wp_iload_n hX (dk DX10_act 2 rfl) rfl ?_
  refine wp_iload_n hX (dk DX10_act 3 rfl) rfl ?_
  refine wp_iload_n hX (dk DX10_act 4 rfl) rfl ?_
  refine w_callVQ (As := [_, _, _]) lkX10_298 hX (dk DX10_act 5 rfl) rfl rfl (by decide) hN (k_start (d + 27) sw f g c n k0 a v hc hc50 hn hk ha hf) (fun v_ sw_ f_ g_ hq_ => ?_)
  obtain ⟨rfl, rfl, rfl, e1, e2⟩ := hq_
  show WP _ _ _ 10 [_, _, _, _] [_] _
  exact wp_ireturn hX hR (dk DX10_act 6 rfl) rfl (Nat.le_refl _) (Nat.le_refl _) (⟨_, _, _, rfl, rfl, rfl, e1, e2⟩)
theorem t_trace (d : Nat) (sw : Bool) (f : Nat → Nat → Int32) (g : Nat → Nat → Int64) (t : List Int32) (x : Int32) (ht : trOk f t) : CT (d + 110) 0 0 iX10_trace [.ref 0, .int x] (S sw f g) (rdC g f (if ¬ x < 0 ∧ x < nI (min t.length 24) then t.getD x.toNatClampNeg 0 else -1)) := by
  refine CT.rdC ?_
  refine CT.of rfl (Nat.le_of_ble_eq_true rfl) (fun X hX hR hN _ => ?_)
  have hX : Good X RX10 cX10_trace (d + 110) 0 0 := hX
  have hN : x_nl X = 2 := hN
  show WP X 0 0 0 [_, _] [] _
  refine wp_aload_n hX (dk DX10_trace 0 rfl) rfl ?_
  refine w_getr hX flX10_65 (dk DX10_trace 1 rfl) rfl rfl ?_
  refine wp_iload_n hX (dk DX10_trace 2 rfl) rfl ?_
  refine w_callV (As := [_]) lkX10_301 hX (dk DX10_trace 3 rfl) rfl rfl (by decide) hN (k_traced (d + 108) sw f g t x ht) ?_
  show WP _ _ _ 8 [_, _] [_] _
  exact wp_ireturn hX hR (dk DX10_trace 4 rfl) rfl (Nat.le_refl _) (Nat.le_refl _) (⟨rfl, rfl⟩)
theorem t_keep0 (d : Nat) (sw : Bool) (f : Nat → Nat → Int32) (g : Nat → Nat → Int64) (c : Nat) (x y : Int32) (hc : f 70 2 = nI c) (hc50 : c ≤ 50) (h : ¬ ((∃ b, b < 6 ∧ x = nI b) ∧ (y = -1 ∨ ∃ i, i < c ∧ y = nI i))) : CT (d + 110) 0 0 iX10_keep [.ref 0, .int x, .int y] (S sw f g) (rdC g f (-1)) := by
  refine CT.rdC ?_
  refine CT.of rfl (Nat.le_of_ble_eq_true rfl) (fun X hX hR hN _ => ?_)
  have hX : Good X RX10 cX10_keep (d + 110) 0 0 := hX
  have hN : x_nl X = 3 := hN
  show WP X 0 0 0 [_, _, _] [] _
  refine wp_aload_n hX (dk DX10_keep 0 rfl) rfl ?_
  refine w_getr hX flX10_72 (dk DX10_keep 1 rfl) rfl rfl ?_
  refine wp_iload_n hX (dk DX10_keep 2 rfl) rfl ?_
  refine w_callV (As := [_]) lkX10_91 hX (dk DX10_keep 3 rfl) rfl rfl (by decide) hN (k_shas (d + 109) sw f g x) ?_
  show WP _ _ _ 8 [_, _, _] [_] _
  refine wp_if_eq (tgt := 27) hX (dk DX10_keep 4 rfl) (by decide) (fun h8 => ?_) (fun h8 => ?_)
  · refine wp_iconst (v := -1) hX (dk DX10_keep 13 rfl) (by decide) ?_
    exact wp_ireturn hX hR (dk DX10_keep 14 rfl) rfl (Nat.le_refl _) (Nat.le_refl _) (⟨rfl, rfl⟩)
  · refine wp_iload_n hX (dk DX10_keep 5 rfl) rfl ?_
    refine wp_iconst (v := -1) hX (dk DX10_keep 6 rfl) (by decide) ?_
    refine wp_icmp_eq (tgt := 29) hX (dk DX10_keep 7 rfl) (by decide) (fun h13 => ?_) (fun h13 => ?_)
    · have hy : y = -1 ∨ ∃ i, i < c ∧ y = nI i := Or.inl h13
      exact absurd ⟨jin_ex (n := 6) (by decide) h8, hy⟩ h
    · refine wp_aload_n hX (dk DX10_keep 8 rfl) rfl ?_
      refine w_getr hX flX10_65 (dk DX10_keep 9 rfl) rfl rfl ?_
      refine wp_iload_n hX (dk DX10_keep 10 rfl) rfl ?_
      refine w_callV (As := [_]) lkX10_304 hX (dk DX10_keep 11 rfl) rfl rfl (by decide) hN (k_sthas (d + 109) sw f g y) ?_
      show WP _ _ _ 24 [_, _, _] [_] _
      rw [hc]
      refine wp_if_ne (tgt := 29) hX (dk DX10_keep 12 rfl) (by decide) (fun h24 => ?_) (fun h24 => ?_)
      · have hy : y = -1 ∨ ∃ i, i < c ∧ y = nI i := Or.inr (jin_ex (by omega) h24)
        exact absurd ⟨jin_ex (n := 6) (by decide) h8, hy⟩ h
      · refine wp_iconst (v := -1) hX (dk DX10_keep 13 rfl) (by decide) ?_
        exact wp_ireturn hX hR (dk DX10_keep 14 rfl) rfl (Nat.le_refl _) (Nat.le_refl _) (⟨rfl, rfl⟩)
theorem t_keepN (d : Nat) (sw : Bool) (f : Nat → Nat → Int32) (g : Nat → Nat → Int64) (b : Nat) (hb : b < 6) : CT (d + 110) 0 0 iX10_keep [.ref 0, .int (nI b), .int (-1)] (S sw f g) (QR (some (.int 1)) (S sw (u2 (u2 f 74 b (-1)) 75 b (-1)) g)) := by
  refine CT.of rfl (Nat.le_of_ble_eq_true rfl) (fun X hX hR hN _ => ?_)
  have hX : Good X RX10 cX10_keep (d + 110) 0 0 := hX
  have hN : x_nl X = 3 := hN
  show WP X 0 0 0 [_, _, _] [] _
  refine wp_aload_n hX (dk DX10_keep 0 rfl) rfl ?_
  refine w_getr hX flX10_72 (dk DX10_keep 1 rfl) rfl rfl ?_
  refine wp_iload_n hX (dk DX10_keep 2 rfl) rfl ?_
  refine w_callV (As := [_]) lkX10_91 hX (dk DX10_keep 3 rfl) rfl rfl (by decide) hN (k_shas (d + 109) sw f g (nI b)) ?_
  show WP _ _ _ 8 [_, _, _] [_] _
  rw [show jin (nI b) 6 = 1 from jin_1 (n := 6) (by decide) hb rfl]
  refine wp_if_eq (tgt := 27) hX (dk DX10_keep 4 rfl) (by decide) (fun h_ => absurd h_ (by decide)) (fun _ => ?_)
  refine wp_iload_n hX (dk DX10_keep 5 rfl) rfl ?_
  refine wp_iconst (v := -1) hX (dk DX10_keep 6 rfl) (by decide) ?_
  refine wp_icmp_eq (tgt := 29) hX (dk DX10_keep 7 rfl) (by decide) (fun _ => ?_) (fun h_ => absurd (rfl) h_)
  refine wp_aload_n hX (dk DX10_keep 15 rfl) rfl ?_
  refine w_getr hX flX10_72 (dk DX10_keep 16 rfl) rfl rfl ?_
  refine wp_iload_n hX (dk DX10_keep 17 rfl) rfl ?_
  refine wp_iload_n hX (dk DX10_keep 18 rfl) rfl ?_
  refine wp_iconst (v := -1) hX (dk DX10_keep 19 rfl) (by decide) ?_
  refine wp_icmp_ne (tgt := 43) hX (dk DX10_keep 20 rfl) (by decide) (fun h_ => absurd (rfl) h_) (fun _ => ?_)
  refine wp_iconst (v := -1) hX (dk DX10_keep 21 rfl) (by decide) ?_
  refine wp_goto (tgt := 44) hX (dk DX10_keep 22 rfl) (by decide) ?_
  refine wp_iload_n hX (dk DX10_keep 24 rfl) rfl ?_
  refine w_callV (As := [_, _, _]) lkX10_305 hX (dk DX10_keep 25 rfl) rfl rfl (by decide) hN (k_set (d + 109) sw f g b _ _ hb) ?_
  show WP _ _ _ 48 [_, _, _] [] _
  refine wp_iconst (v := 1) hX (dk DX10_keep 26 rfl) (by decide) ?_
  exact wp_ireturn hX hR (dk DX10_keep 27 rfl) rfl (Nat.le_refl _) (Nat.le_refl _) (⟨rfl, rfl⟩)
theorem t_keepS (d : Nat) (sw : Bool) (f : Nat → Nat → Int32) (g : Nat → Nat → Int64) (b c i : Nat) (hb : b < 6) (hc : f 70 2 = nI c) (hc50 : c ≤ 50) (hi : i < c) : CT (d + 110) 0 0 iX10_keep [.ref 0, .int (nI b), .int (nI i)] (S sw f g) (QR (some (.int 1)) (S sw (u2 (u2 f 74 b 5) 75 b (nI i)) g)) := by
  have hne : ¬ nI i = -1 := fun q => nI_pos (n := i) (by omega) (by rw [q]; decide)
  refine CT.of rfl (Nat.le_of_ble_eq_true rfl) (fun X hX hR hN _ => ?_)
  have hX : Good X RX10 cX10_keep (d + 110) 0 0 := hX
  have hN : x_nl X = 3 := hN
  show WP X 0 0 0 [_, _, _] [] _
  refine wp_aload_n hX (dk DX10_keep 0 rfl) rfl ?_
  refine w_getr hX flX10_72 (dk DX10_keep 1 rfl) rfl rfl ?_
  refine wp_iload_n hX (dk DX10_keep 2 rfl) rfl ?_
  refine w_callV (As := [_]) lkX10_91 hX (dk DX10_keep 3 rfl) rfl rfl (by decide) hN (k_shas (d + 109) sw f g (nI b)) ?_
  show WP _ _ _ 8 [_, _, _] [_] _
  rw [show jin (nI b) 6 = 1 from jin_1 (n := 6) (by decide) hb rfl]
  refine wp_if_eq (tgt := 27) hX (dk DX10_keep 4 rfl) (by decide) (fun h_ => absurd h_ (by decide)) (fun _ => ?_)
  refine wp_iload_n hX (dk DX10_keep 5 rfl) rfl ?_
  refine wp_iconst (v := -1) hX (dk DX10_keep 6 rfl) (by decide) ?_
  refine wp_icmp_eq (tgt := 29) hX (dk DX10_keep 7 rfl) (by decide) (fun h_ => absurd h_ (hne)) (fun _ => ?_)
  refine wp_aload_n hX (dk DX10_keep 8 rfl) rfl ?_
  refine w_getr hX flX10_65 (dk DX10_keep 9 rfl) rfl rfl ?_
  refine wp_iload_n hX (dk DX10_keep 10 rfl) rfl ?_
  refine w_callV (As := [_]) lkX10_304 hX (dk DX10_keep 11 rfl) rfl rfl (by decide) hN (k_sthas (d + 109) sw f g (nI i)) ?_
  show WP _ _ _ 24 [_, _, _] [_] _
  rw [hc, jin_1 (by omega) hi rfl]
  refine wp_if_ne (tgt := 29) hX (dk DX10_keep 12 rfl) (by decide) (fun _ => ?_) (fun h_ => absurd h_ (by decide))
  refine wp_aload_n hX (dk DX10_keep 15 rfl) rfl ?_
  refine w_getr hX flX10_72 (dk DX10_keep 16 rfl) rfl rfl ?_
  refine wp_iload_n hX (dk DX10_keep 17 rfl) rfl ?_
  refine wp_iload_n hX (dk DX10_keep 18 rfl) rfl ?_
  refine wp_iconst (v := -1) hX (dk DX10_keep 19 rfl) (by decide) ?_
  refine wp_icmp_ne (tgt := 43) hX (dk DX10_keep 20 rfl) (by decide) (fun _ => ?_) (fun h_ => absurd h_ (hne))
  refine wp_iconst (v := 5) hX (dk DX10_keep 23 rfl) (by decide) ?_
  refine wp_iload_n hX (dk DX10_keep 24 rfl) rfl ?_
  refine w_callV (As := [_, _, _]) lkX10_305 hX (dk DX10_keep 25 rfl) rfl rfl (by decide) hN (k_set (d + 109) sw f g b _ _ hb) ?_
  show WP _ _ _ 48 [_, _, _] [] _
  refine wp_iconst (v := 1) hX (dk DX10_keep 26 rfl) (by decide) ?_
  exact wp_ireturn hX hR (dk DX10_keep 27 rfl) rfl (Nat.le_refl _) (Nat.le_refl _) (⟨rfl, rfl⟩)
theorem t_row0 (d : Nat) (sw : Bool) (f : Nat → Nat → Int32) (g : Nat → Nat → Int64) (x y z : Int32) (h : ¬ ((∃ b, b < 6 ∧ x = nI b) ∧ (∃ k, k < 5 ∧ y = nI k) ∧ ¬ 60 < z)) : CT (d + 110) 0 0 iX10_row [.ref 0, .int x, .int y, .int z] (S sw f g) (rdC g f (-1)) := by
  refine CT.rdC ?_
  refine CT.of rfl (Nat.le_of_ble_eq_true rfl) (fun X hX hR hN _ => ?_)
  have hX : Good X RX10 cX10_row (d + 110) 0 0 := hX
  have hN : x_nl X = 4 := hN
  show WP X 0 0 0 [_, _, _, _] [] _
  refine wp_aload_n hX (dk DX10_row 0 rfl) rfl ?_
  refine w_getr hX flX10_72 (dk DX10_row 1 rfl) rfl rfl ?_
  refine wp_iload_n hX (dk DX10_row 2 rfl) rfl ?_
  refine w_callV (As := [_]) lkX10_91 hX (dk DX10_row 3 rfl) rfl rfl (by decide) hN (k_shas (d + 109) sw f g x) ?_
  show WP _ _ _ 8 [_, _, _, _] [_] _
  refine wp_if_eq (tgt := 26) hX (dk DX10_row 4 rfl) (by decide) (fun h8 => ?_) (fun h8 => ?_)
  · refine wp_iconst (v := -1) hX (dk DX10_row 13 rfl) (by decide) ?_
    exact wp_ireturn hX hR (dk DX10_row 14 rfl) rfl (Nat.le_refl _) (Nat.le_refl _) (⟨rfl, rfl⟩)
  · refine wp_iload_n hX (dk DX10_row 5 rfl) rfl ?_
    refine wp_if_lt (tgt := 26) hX (dk DX10_row 6 rfl) (by decide) (fun h12 => ?_) (fun h12 => ?_)
    · refine wp_iconst (v := -1) hX (dk DX10_row 13 rfl) (by decide) ?_
      exact wp_ireturn hX hR (dk DX10_row 14 rfl) rfl (Nat.le_refl _) (Nat.le_refl _) (⟨rfl, rfl⟩)
    · refine wp_iload_n hX (dk DX10_row 7 rfl) rfl ?_
      refine wp_iconst (v := 5) hX (dk DX10_row 8 rfl) (by decide) ?_
      refine wp_icmp_ge (tgt := 26) hX (dk DX10_row 9 rfl) (by decide) (fun h17 => ?_) (fun h17 => ?_)
      · refine wp_iconst (v := -1) hX (dk DX10_row 13 rfl) (by decide) ?_
        exact wp_ireturn hX hR (dk DX10_row 14 rfl) rfl (Nat.le_refl _) (Nat.le_refl _) (⟨rfl, rfl⟩)
      · refine wp_iload_n hX (dk DX10_row 10 rfl) rfl ?_
        refine wp_bipush (v := 60) hX (dk DX10_row 11 rfl) (by decide) ?_
        refine wp_icmp_le (tgt := 28) hX (dk DX10_row 12 rfl) (by decide) (fun h23 => ?_) (fun h23 => ?_)
        · exact absurd ⟨jin_ex (n := 6) (by decide) h8, rg_lt (k := 5) (by decide) h12 h17, Int32.not_lt.mpr h23⟩ h
        · refine wp_iconst (v := -1) hX (dk DX10_row 13 rfl) (by decide) ?_
          exact wp_ireturn hX hR (dk DX10_row 14 rfl) rfl (Nat.le_refl _) (Nat.le_refl _) (⟨rfl, rfl⟩)
theorem t_rowN (d : Nat) (sw : Bool) (f : Nat → Nat → Int32) (g : Nat → Nat → Int64) (b k : Nat) (z : Int32) (hb : b < 6) (hk : k < 5) (hz : z < 0) : CT (d + 110) 0 0 iX10_row [.ref 0, .int (nI b), .int (nI k), .int z] (S sw f g) (rdC g f (-14)) := by
  refine CT.rdC ?_
  refine CT.of rfl (Nat.le_of_ble_eq_true rfl) (fun X hX hR hN _ => ?_)
  have hX : Good X RX10 cX10_row (d + 110) 0 0 := hX
  have hN : x_nl X = 4 := hN
  show WP X 0 0 0 [_, _, _, _] [] _
  refine wp_aload_n hX (dk DX10_row 0 rfl) rfl ?_
  refine w_getr hX flX10_72 (dk DX10_row 1 rfl) rfl rfl ?_
  refine wp_iload_n hX (dk DX10_row 2 rfl) rfl ?_
  refine w_callV (As := [_]) lkX10_91 hX (dk DX10_row 3 rfl) rfl rfl (by decide) hN (k_shas (d + 109) sw f g (nI b)) ?_
  show WP _ _ _ 8 [_, _, _, _] [_] _
  rw [show jin (nI b) 6 = 1 from jin_1 (n := 6) (by decide) hb rfl]
  refine wp_if_eq (tgt := 26) hX (dk DX10_row 4 rfl) (by decide) (fun h_ => absurd h_ (by decide)) (fun _ => ?_)
  refine wp_iload_n hX (dk DX10_row 5 rfl) rfl ?_
  refine wp_if_lt (tgt := 26) hX (dk DX10_row 6 rfl) (by decide) (fun h_ => absurd h_ (nI_pos (by omega))) (fun _ => ?_)
  refine wp_iload_n hX (dk DX10_row 7 rfl) rfl ?_
  refine wp_iconst (v := 5) hX (dk DX10_row 8 rfl) (by decide) ?_
  refine wp_icmp_ge (tgt := 26) hX (dk DX10_row 9 rfl) (by decide) (fun h_ => absurd h_ (nI_ge (b := 5) (by omega) (by omega))) (fun _ => ?_)
  refine wp_iload_n hX (dk DX10_row 10 rfl) rfl ?_
  refine wp_bipush (v := 60) hX (dk DX10_row 11 rfl) (by decide) ?_
  refine wp_icmp_le (tgt := 28) hX (dk DX10_row 12 rfl) (by decide) (fun _ => ?_) (fun h_ => absurd (Int32.le_of_lt (Int32.lt_trans hz (by decide))) h_)
  refine wp_iload_n hX (dk DX10_row 15 rfl) rfl ?_
  refine wp_if_ge (tgt := 35) hX (dk DX10_row 16 rfl) (by decide) (fun h_ => absurd h_ (Int32.not_le.mpr hz)) (fun _ => ?_)
  refine wp_bipush (v := -14) hX (dk DX10_row 17 rfl) (by decide) ?_
  exact wp_ireturn hX hR (dk DX10_row 18 rfl) rfl (Nat.le_refl _) (Nat.le_refl _) (⟨rfl, rfl⟩)
theorem t_row1 (d : Nat) (sw : Bool) (f : Nat → Nat → Int32) (g : Nat → Nat → Int64) (b k z : Nat) (hb : b < 6) (hk : k < 5) (hz : z ≤ 60) : CT (d + 110) 0 0 iX10_row [.ref 0, .int (nI b), .int (nI k), .int (nI z)] (S sw f g) (QR (some (.int 1)) (S sw (u2 (u2 f 74 b (nI k)) 75 b (nI z)) (u1 g 76 (jemp (g 76) b 60)))) := by
  refine CT.of rfl (Nat.le_of_ble_eq_true rfl) (fun X hX hR hN _ => ?_)
  have hX : Good X RX10 cX10_row (d + 110) 0 0 := hX
  have hN : x_nl X = 4 := hN
  show WP X 0 0 0 [_, _, _, _] [] _
  refine wp_aload_n hX (dk DX10_row 0 rfl) rfl ?_
  refine w_getr hX flX10_72 (dk DX10_row 1 rfl) rfl rfl ?_
  refine wp_iload_n hX (dk DX10_row 2 rfl) rfl ?_
  refine w_callV (As := [_]) lkX10_91 hX (dk DX10_row 3 rfl) rfl rfl (by decide) hN (k_shas (d + 109) sw f g (nI b)) ?_
  show WP _ _ _ 8 [_, _, _, _] [_] _
  rw [show jin (nI b) 6 = 1 from jin_1 (n := 6) (by decide) hb rfl]
  refine wp_if_eq (tgt := 26) hX (dk DX10_row 4 rfl) (by decide) (fun h_ => absurd h_ (by decide)) (fun _ => ?_)
  refine wp_iload_n hX (dk DX10_row 5 rfl) rfl ?_
  refine wp_if_lt (tgt := 26) hX (dk DX10_row 6 rfl) (by decide) (fun h_ => absurd h_ (nI_pos (by omega))) (fun _ => ?_)
  refine wp_iload_n hX (dk DX10_row 7 rfl) rfl ?_
  refine wp_iconst (v := 5) hX (dk DX10_row 8 rfl) (by decide) ?_
  refine wp_icmp_ge (tgt := 26) hX (dk DX10_row 9 rfl) (by decide) (fun h_ => absurd h_ (nI_ge (b := 5) (by omega) (by omega))) (fun _ => ?_)
  refine wp_iload_n hX (dk DX10_row 10 rfl) rfl ?_
  refine wp_bipush (v := 60) hX (dk DX10_row 11 rfl) (by decide) ?_
  refine wp_icmp_le (tgt := 28) hX (dk DX10_row 12 rfl) (by decide) (fun _ => ?_) (fun h_ => absurd (nI_le (b := 60) (by omega) (by omega)) h_)
  refine wp_iload_n hX (dk DX10_row 15 rfl) rfl ?_
  refine wp_if_ge (tgt := 35) hX (dk DX10_row 16 rfl) (by decide) (fun _ => ?_) (fun h_ => absurd (nI_pos' (by omega)) h_)
  refine wp_aload_n hX (dk DX10_row 19 rfl) rfl ?_
  refine w_getr hX flX10_72 (dk DX10_row 20 rfl) rfl rfl ?_
  refine wp_iload_n hX (dk DX10_row 21 rfl) rfl ?_
  refine wp_iload_n hX (dk DX10_row 22 rfl) rfl ?_
  refine wp_iload_n hX (dk DX10_row 23 rfl) rfl ?_
  refine w_callV (As := [_, _, _]) lkX10_305 hX (dk DX10_row 24 rfl) rfl rfl (by decide) hN (k_set (d + 109) sw f g b _ _ hb) ?_
  show WP _ _ _ 45 [_, _, _, _] [] _
  refine wp_aload_n hX (dk DX10_row 25 rfl) rfl ?_
  refine w_getr hX flX10_72 (dk DX10_row 26 rfl) rfl rfl ?_
  refine wp_iload_n hX (dk DX10_row 27 rfl) rfl ?_
  refine w_callV (As := [_]) lkX10_308 hX (dk DX10_row 28 rfl) rfl rfl (by decide) hN (k_empty (d + 109) sw _ g b hb) ?_
  show WP _ _ _ 53 [_, _, _, _] [] _
  refine wp_iconst (v := 1) hX (dk DX10_row 29 rfl) (by decide) ?_
  exact wp_ireturn hX hR (dk DX10_row 30 rfl) rfl (Nat.le_refl _) (Nat.le_refl _) (⟨rfl, rfl⟩)
/-- why an element can't be reached; 0: it can -/
def jre (s z i : Int32) : Int32 := if s = -1 then -11 else if jin s 5 = 0 then -12 else if jstr z i 1 = 0 then -13 else 0
theorem k_refE0 (d : Nat) (sw : Bool) (f : Nat → Nat → Int32) (g : Nat → Nat → Int64) (x i : Int32) (h : ¬ ∃ b, b < 6 ∧ x = nI b) : CT (d + 1) 0 0 iX10_refusalOfElement [.ref 0, .int x, .int i] (S sw f g) (QR (some (.int (-1))) (S sw f g)) := by
  refine CT.of rfl (Nat.le_of_ble_eq_true rfl) (fun X hX hR hN _ => ?_)
  have hX : Good X RX10 cX10_refusalOfElement (d + 1) 0 0 := hX
  have hN : x_nl X = 3 := hN
  show WP X 0 0 0 [_, _, _] [] _
  refine wp_aload_n hX (dk DX10_refusalOfElement 0 rfl) rfl ?_
  refine w_getr hX flX10_72 (dk DX10_refusalOfElement 1 rfl) rfl rfl ?_
  refine wp_iload_n hX (dk DX10_refusalOfElement 2 rfl) rfl ?_
  refine w_callV (As := [_]) lkX10_91 hX (dk DX10_refusalOfElement 3 rfl) rfl rfl (by decide) hN (k_shas d sw f g x) ?_
  show WP _ _ _ 8 [_, _, _] [_] _
  rw [show jin x 6 = 0 from jin_0 (n := 6) (by decide) h]
  refine wp_if_ne (tgt := 13) hX (dk DX10_refusalOfElement 4 rfl) (by decide) (fun h_ => absurd (rfl) h_) (fun _ => ?_)
  refine wp_iconst (v := -1) hX (dk DX10_refusalOfElement 5 rfl) (by decide) ?_
  exact wp_ireturn hX hR (dk DX10_refusalOfElement 6 rfl) rfl (Nat.le_refl _) (Nat.le_refl _) (⟨rfl, rfl⟩)
theorem k_refE1 (d : Nat) (sw : Bool) (f : Nat → Nat → Int32) (g : Nat → Nat → Int64) (b : Nat) (i : Int32) (hb : b < 6) : CT (d + 1) 0 0 iX10_refusalOfElement [.ref 0, .int (nI b), .int i] (S sw f g) (QR (some (.int (jre (f 74 b) (f 75 b) i))) (S sw f g)) := by
  refine CT.of rfl (Nat.le_of_ble_eq_true rfl) (fun X hX hR hN _ => ?_)
  have hX : Good X RX10 cX10_refusalOfElement (d + 1) 0 0 := hX
  have hN : x_nl X = 3 := hN
  show WP X 0 0 0 [_, _, _] [] _
  refine wp_aload_n hX (dk DX10_refusalOfElement 0 rfl) rfl ?_
  refine w_getr hX flX10_72 (dk DX10_refusalOfElement 1 rfl) rfl rfl ?_
  refine wp_iload_n hX (dk DX10_refusalOfElement 2 rfl) rfl ?_
  refine w_callV (As := [_]) lkX10_91 hX (dk DX10_refusalOfElement 3 rfl) rfl rfl (by decide) hN (k_shas d sw f g (nI b)) ?_
  show WP _ _ _ 8 [_, _, _] [_] _
  rw [show jin (nI b) 6 = 1 from jin_1 (n := 6) (by decide) hb rfl]
  refine wp_if_ne (tgt := 13) hX (dk DX10_refusalOfElement 4 rfl) (by decide) (fun _ => ?_) (fun h_ => absurd h_ (by decide))
  refine wp_aload_n hX (dk DX10_refusalOfElement 7 rfl) rfl ?_
  refine w_getr hX flX10_72 (dk DX10_refusalOfElement 8 rfl) rfl rfl ?_
  refine wp_iload_n hX (dk DX10_refusalOfElement 9 rfl) rfl ?_
  refine w_callV (As := [_]) lkX10_94 hX (dk DX10_refusalOfElement 10 rfl) rfl rfl (by decide) hN (k_sortOf d sw f g b hb) ?_
  show WP _ _ _ 21 [_, _, _] [_] _
  refine wp_iconst (v := -1) hX (dk DX10_refusalOfElement 11 rfl) (by decide) ?_
  refine wp_icmp_ne (tgt := 28) hX (dk DX10_refusalOfElement 12 rfl) (by decide) (fun h22 => ?_) (fun h22 => ?_)
  · refine wp_aload_n hX (dk DX10_refusalOfElement 15 rfl) rfl ?_
    refine w_getr hX flX10_72 (dk DX10_refusalOfElement 16 rfl) rfl rfl ?_
    refine wp_iload_n hX (dk DX10_refusalOfElement 17 rfl) rfl ?_
    refine w_callV (As := [_]) lkX10_326 hX (dk DX10_refusalOfElement 18 rfl) rfl rfl (by decide) hN (k_isRow d sw f g b hb) ?_
    show WP _ _ _ 36 [_, _, _] [_] _
    refine wp_if_ne (tgt := 42) hX (dk DX10_refusalOfElement 19 rfl) (by decide) (fun h36 => ?_) (fun h36 => ?_)
    · refine wp_aload_n hX (dk DX10_refusalOfElement 22 rfl) rfl ?_
      refine w_getr hX flX10_72 (dk DX10_refusalOfElement 23 rfl) rfl rfl ?_
      refine wp_iload_n hX (dk DX10_refusalOfElement 24 rfl) rfl ?_
      refine wp_iload_n hX (dk DX10_refusalOfElement 25 rfl) rfl ?_
      refine wp_iconst (v := 1) hX (dk DX10_refusalOfElement 26 rfl) (by decide) ?_
      refine w_callV (As := [_, _, _]) lkX10_329 hX (dk DX10_refusalOfElement 27 rfl) rfl rfl (by decide) hN (k_hasStretch d sw f g b i 1 hb) ?_
      show WP _ _ _ 52 [_, _, _] [_] _
      refine wp_if_eq (tgt := 59) hX (dk DX10_refusalOfElement 28 rfl) (by decide) (fun h52 => ?_) (fun h52 => ?_)
      · refine wp_bipush (v := -13) hX (dk DX10_refusalOfElement 31 rfl) (by decide) ?_
        exact wp_ireturn hX hR (dk DX10_refusalOfElement 32 rfl) rfl (Nat.le_refl _) (Nat.le_refl _) (⟨by simp [jre, h22, h36, h52], rfl⟩)
      · refine wp_iconst (v := 0) hX (dk DX10_refusalOfElement 29 rfl) (by decide) ?_
        refine wp_goto (tgt := 61) hX (dk DX10_refusalOfElement 30 rfl) (by decide) ?_
        exact wp_ireturn hX hR (dk DX10_refusalOfElement 32 rfl) rfl (Nat.le_refl _) (Nat.le_refl _) (⟨by simp [jre, h22, h36, h52], rfl⟩)
    · refine wp_bipush (v := -12) hX (dk DX10_refusalOfElement 20 rfl) (by decide) ?_
      exact wp_ireturn hX hR (dk DX10_refusalOfElement 21 rfl) rfl (Nat.le_refl _) (Nat.le_refl _) (⟨by simp [jre, h22, h36], rfl⟩)
  · refine wp_bipush (v := -11) hX (dk DX10_refusalOfElement 13 rfl) (by decide) ?_
    exact wp_ireturn hX hR (dk DX10_refusalOfElement 14 rfl) rfl (Nat.le_refl _) (Nat.le_refl _) (⟨by simp [jre, h22], rfl⟩)
theorem jre_0 {s z i : Int32} (h : jre s z i = 0) : (∃ k, k < 5 ∧ s = nI k) ∧ ¬ jstr z i 1 = 0 := by
  unfold jre at h
  split at h
  · cases h
  · split at h
    · cases h
    · next c =>
      split at h
      · cases h
      · next c2 => exact ⟨jin_ex (n := 5) (by decide) c, c2⟩
theorem t_put0 (d : Nat) (sw : Bool) (f : Nat → Nat → Int32) (g : Nat → Nat → Int64) (x i : Int32) (v : Int64) (h : ¬ ∃ b, b < 6 ∧ x = nI b) : CT (d + 110) 0 0 iX10_put [.ref 0, .int x, .int i, .long v] (S sw f g) (rdC g f (-1)) := by
  refine CT.rdC ?_
  refine CT.of rfl (Nat.le_of_ble_eq_true rfl) (fun X hX hR hN _ => ?_)
  have hX : Good X RX10 cX10_put (d + 110) 0 0 := hX
  have hN : x_nl X = 6 := hN
  show WP X 0 0 0 [_, _, _, _, _, _] [] _
  refine wp_aload_n hX (dk DX10_put 0 rfl) rfl ?_
  refine wp_iload_n hX (dk DX10_put 1 rfl) rfl ?_
  refine wp_iload_n hX (dk DX10_put 2 rfl) rfl ?_
  refine w_callV (As := [_, _]) lkX10_311 hX (dk DX10_put 3 rfl) rfl rfl (by decide) hN (k_refE0 (d + 108) sw f g x i h) ?_
  show WP _ _ _ 6 [_, _, _, _, _, _] [_] _
  refine wp_istore hX (dk DX10_put 4 rfl) rfl hN (Nat.le_of_ble_eq_true rfl) ?_
  show WP _ _ _ 8 [_, _, _, _, _, _] [] _
  refine wp_iload hX (dk DX10_put 5 rfl) rfl ?_
  refine wp_if_eq (tgt := 16) hX (dk DX10_put 6 rfl) (by decide) (fun h_ => absurd h_ (by decide)) (fun _ => ?_)
  refine wp_iload hX (dk DX10_put 7 rfl) rfl ?_
  exact wp_ireturn hX hR (dk DX10_put 8 rfl) rfl (Nat.le_refl _) (Nat.le_refl _) (⟨rfl, rfl⟩)
theorem t_putR (d : Nat) (sw : Bool) (f : Nat → Nat → Int32) (g : Nat → Nat → Int64) (b : Nat) (i : Int32) (v : Int64) (hb : b < 6) (h : ¬ jre (f 74 b) (f 75 b) i = 0) : CT (d + 110) 0 0 iX10_put [.ref 0, .int (nI b), .int i, .long v] (S sw f g) (rdC g f (jre (f 74 b) (f 75 b) i)) := by
  refine CT.rdC ?_
  refine CT.of rfl (Nat.le_of_ble_eq_true rfl) (fun X hX hR hN _ => ?_)
  have hX : Good X RX10 cX10_put (d + 110) 0 0 := hX
  have hN : x_nl X = 6 := hN
  show WP X 0 0 0 [_, _, _, _, _, _] [] _
  refine wp_aload_n hX (dk DX10_put 0 rfl) rfl ?_
  refine wp_iload_n hX (dk DX10_put 1 rfl) rfl ?_
  refine wp_iload_n hX (dk DX10_put 2 rfl) rfl ?_
  refine w_callV (As := [_, _]) lkX10_311 hX (dk DX10_put 3 rfl) rfl rfl (by decide) hN (k_refE1 (d + 108) sw f g b i hb) ?_
  show WP _ _ _ 6 [_, _, _, _, _, _] [_] _
  refine wp_istore hX (dk DX10_put 4 rfl) rfl hN (Nat.le_of_ble_eq_true rfl) ?_
  show WP _ _ _ 8 [_, _, _, _, _, _] [] _
  refine wp_iload hX (dk DX10_put 5 rfl) rfl ?_
  refine wp_if_eq (tgt := 16) hX (dk DX10_put 6 rfl) (by decide) (fun h_ => absurd h_ (h)) (fun _ => ?_)
  refine wp_iload hX (dk DX10_put 7 rfl) rfl ?_
  exact wp_ireturn hX hR (dk DX10_put 8 rfl) rfl (Nat.le_refl _) (Nat.le_refl _) (⟨rfl, rfl⟩)
theorem t_put1 (d : Nat) (sw : Bool) (f : Nat → Nat → Int32) (g : Nat → Nat → Int64) (b i k : Nat) (v : Int64) (hb : b < 6) (hi : i < 60) (hk : f 74 b = nI k) (hk5 : k < 5) (h : jre (f 74 b) (f 75 b) (nI i) = 0) : CT (d + 110) 0 0 iX10_put [.ref 0, .int (nI b), .int (nI i), .long v] (S sw f g) (QR (some (.int 1)) (S sw f (u2 g 76 (b * 60 + i) (jnar k v)))) := by
  refine CT.of rfl (Nat.le_of_ble_eq_true rfl) (fun X hX hR hN _ => ?_)
  have hX : Good X RX10 cX10_put (d + 110) 0 0 := hX
  have hN : x_nl X = 6 := hN
  show WP X 0 0 0 [_, _, _, _, _, _] [] _
  refine wp_aload_n hX (dk DX10_put 0 rfl) rfl ?_
  refine wp_iload_n hX (dk DX10_put 1 rfl) rfl ?_
  refine wp_iload_n hX (dk DX10_put 2 rfl) rfl ?_
  refine w_callV (As := [_, _]) lkX10_311 hX (dk DX10_put 3 rfl) rfl rfl (by decide) hN (k_refE1 (d + 108) sw f g b (nI i) hb) ?_
  show WP _ _ _ 6 [_, _, _, _, _, _] [_] _
  rw [h]
  refine wp_istore hX (dk DX10_put 4 rfl) rfl hN (Nat.le_of_ble_eq_true rfl) ?_
  show WP _ _ _ 8 [_, _, _, _, _, _] [] _
  refine wp_iload hX (dk DX10_put 5 rfl) rfl ?_
  refine wp_if_eq (tgt := 16) hX (dk DX10_put 6 rfl) (by decide) (fun _ => ?_) (fun h_ => absurd (rfl) h_)
  refine wp_aload_n hX (dk DX10_put 9 rfl) rfl ?_
  refine w_getr hX flX10_72 (dk DX10_put 10 rfl) rfl rfl ?_
  refine wp_iload_n hX (dk DX10_put 11 rfl) rfl ?_
  refine wp_iload_n hX (dk DX10_put 12 rfl) rfl ?_
  refine wp_lload_n hX (dk DX10_put 13 rfl) rfl ?_
  refine w_callV (As := [_, _, _]) lkX10_314 hX (dk DX10_put 14 rfl) rfl rfl (by decide) hN (k_write (d + 108) sw f g b i k v hb hi hk hk5) ?_
  show WP _ _ _ 26 [_, _, _, _, _, _] [] _
  refine wp_iconst (v := 1) hX (dk DX10_put 15 rfl) (by decide) ?_
  exact wp_ireturn hX hR (dk DX10_put 16 rfl) rfl (Nat.le_refl _) (Nat.le_refl _) (⟨rfl, rfl⟩)
theorem t_elem0 (d : Nat) (sw : Bool) (f : Nat → Nat → Int32) (g : Nat → Nat → Int64) (x i : Int32) (h : ¬ ∃ b, b < 6 ∧ x = nI b) : CT (d + 110) 0 0 iX10_element [.ref 0, .int x, .int i] (S sw f g) (QR (some (.long (-9223372036854775808))) (S sw f g)) := by
  refine CT.of rfl (Nat.le_of_ble_eq_true rfl) (fun X hX hR hN _ => ?_)
  have hX : Good X RX10 cX10_element (d + 110) 0 0 := hX
  have hN : x_nl X = 3 := hN
  show WP X 0 0 0 [_, _, _] [] _
  refine wp_aload_n hX (dk DX10_element 0 rfl) rfl ?_
  refine wp_iload_n hX (dk DX10_element 1 rfl) rfl ?_
  refine wp_iload_n hX (dk DX10_element 2 rfl) rfl ?_
  refine w_callV (As := [_, _]) lkX10_311 hX (dk DX10_element 3 rfl) rfl rfl (by decide) hN (k_refE0 (d + 108) sw f g x i h) ?_
  show WP _ _ _ 6 [_, _, _] [_] _
  refine wp_if_ne (tgt := 21) hX (dk DX10_element 4 rfl) (by decide) (fun _ => ?_) (fun h_ => absurd h_ (by decide))
  refine wp_ldc2 hX (dk DX10_element 11 rfl) kcX10_324 ?_
  exact wp_lreturn hX hR (dk DX10_element 12 rfl) (Nat.le_refl _) (Nat.le_refl _) (⟨rfl, rfl⟩)
theorem t_elemR (d : Nat) (sw : Bool) (f : Nat → Nat → Int32) (g : Nat → Nat → Int64) (b : Nat) (i : Int32) (hb : b < 6) (h : ¬ jre (f 74 b) (f 75 b) i = 0) : CT (d + 110) 0 0 iX10_element [.ref 0, .int (nI b), .int i] (S sw f g) (QR (some (.long (-9223372036854775808))) (S sw f g)) := by
  refine CT.of rfl (Nat.le_of_ble_eq_true rfl) (fun X hX hR hN _ => ?_)
  have hX : Good X RX10 cX10_element (d + 110) 0 0 := hX
  have hN : x_nl X = 3 := hN
  show WP X 0 0 0 [_, _, _] [] _
  refine wp_aload_n hX (dk DX10_element 0 rfl) rfl ?_
  refine wp_iload_n hX (dk DX10_element 1 rfl) rfl ?_
  refine wp_iload_n hX (dk DX10_element 2 rfl) rfl ?_
  refine w_callV (As := [_, _]) lkX10_311 hX (dk DX10_element 3 rfl) rfl rfl (by decide) hN (k_refE1 (d + 108) sw f g b i hb) ?_
  show WP _ _ _ 6 [_, _, _] [_] _
  refine wp_if_ne (tgt := 21) hX (dk DX10_element 4 rfl) (by decide) (fun _ => ?_) (fun h_ => absurd h_ (h))
  refine wp_ldc2 hX (dk DX10_element 11 rfl) kcX10_324 ?_
  exact wp_lreturn hX hR (dk DX10_element 12 rfl) (Nat.le_refl _) (Nat.le_refl _) (⟨rfl, rfl⟩)
theorem t_elem1 (d : Nat) (sw : Bool) (f : Nat → Nat → Int32) (g : Nat → Nat → Int64) (b i : Nat) (hb : b < 6) (hi : i < 60) (h : jre (f 74 b) (f 75 b) (nI i) = 0) : CT (d + 110) 0 0 iX10_element [.ref 0, .int (nI b), .int (nI i)] (S sw f g) (QR (some (.long (g 76 (b * 60 + i)))) (S sw f g)) := by
  refine CT.of rfl (Nat.le_of_ble_eq_true rfl) (fun X hX hR hN _ => ?_)
  have hX : Good X RX10 cX10_element (d + 110) 0 0 := hX
  have hN : x_nl X = 3 := hN
  show WP X 0 0 0 [_, _, _] [] _
  refine wp_aload_n hX (dk DX10_element 0 rfl) rfl ?_
  refine wp_iload_n hX (dk DX10_element 1 rfl) rfl ?_
  refine wp_iload_n hX (dk DX10_element 2 rfl) rfl ?_
  refine w_callV (As := [_, _]) lkX10_311 hX (dk DX10_element 3 rfl) rfl rfl (by decide) hN (k_refE1 (d + 108) sw f g b (nI i) hb) ?_
  show WP _ _ _ 6 [_, _, _] [_] _
  rw [h]
  refine wp_if_ne (tgt := 21) hX (dk DX10_element 4 rfl) (by decide) (fun h_ => absurd (rfl) h_) (fun _ => ?_)
  refine wp_aload_n hX (dk DX10_element 5 rfl) rfl ?_
  refine w_getr hX flX10_72 (dk DX10_element 6 rfl) rfl rfl ?_
  refine wp_iload_n hX (dk DX10_element 7 rfl) rfl ?_
  refine wp_iload_n hX (dk DX10_element 8 rfl) rfl ?_
  refine w_callV (As := [_, _]) lkX10_318 hX (dk DX10_element 9 rfl) rfl rfl (by decide) hN (k_at (d + 109) sw f g b i hb hi) ?_
  show WP _ _ _ 18 [_, _, _] [_] _
  refine wp_goto (tgt := 24) hX (dk DX10_element 10 rfl) (by decide) ?_
  exact wp_lreturn hX hR (dk DX10_element 12 rfl) (Nat.le_refl _) (Nat.le_refl _) (⟨rfl, rfl⟩)
/-- why a stretch can't be brought; 0: it can -/
def jsh (s z s2 z2 i j n : Int32) : Int32 := if s = -1 ∨ s2 = -1 then -11 else if jin s 5 = 0 ∨ ¬ s = s2 then -12 else if jstr z i n = 0 ∨ jstr z2 j n = 0 then -13 else 0
theorem t_shift0 (d : Nat) (sw : Bool) (f : Nat → Nat → Int32) (g : Nat → Nat → Int64) (x i y j n : Int32) (h : ¬ ((∃ b, b < 6 ∧ x = nI b) ∧ ∃ c, c < 6 ∧ y = nI c)) : CT (d + 110) 0 0 iX10_shift [.ref 0, .int x, .int i, .int y, .int j, .int n] (S sw f g) (rdC g f (-1)) := by
  refine CT.rdC ?_
  refine CT.of rfl (Nat.le_of_ble_eq_true rfl) (fun X hX hR hN _ => ?_)
  have hX : Good X RX10 cX10_shift (d + 110) 0 0 := hX
  have hN : x_nl X = 6 := hN
  show WP X 0 0 0 [_, _, _, _, _, _] [] _
  refine wp_aload_n hX (dk DX10_shift 0 rfl) rfl ?_
  refine w_getr hX flX10_72 (dk DX10_shift 1 rfl) rfl rfl ?_
  refine wp_iload_n hX (dk DX10_shift 2 rfl) rfl ?_
  refine w_callV (As := [_]) lkX10_91 hX (dk DX10_shift 3 rfl) rfl rfl (by decide) hN (k_shas (d + 109) sw f g x) ?_
  show WP _ _ _ 8 [_, _, _, _, _, _] [_] _
  refine wp_if_eq (tgt := 22) hX (dk DX10_shift 4 rfl) (by decide) (fun h8 => ?_) (fun h8 => ?_)
  · refine wp_iconst (v := -1) hX (dk DX10_shift 10 rfl) (by decide) ?_
    exact wp_ireturn hX hR (dk DX10_shift 11 rfl) rfl (Nat.le_refl _) (Nat.le_refl _) (⟨rfl, rfl⟩)
  · refine wp_aload_n hX (dk DX10_shift 5 rfl) rfl ?_
    refine w_getr hX flX10_72 (dk DX10_shift 6 rfl) rfl rfl ?_
    refine wp_iload_n hX (dk DX10_shift 7 rfl) rfl ?_
    refine w_callV (As := [_]) lkX10_91 hX (dk DX10_shift 8 rfl) rfl rfl (by decide) hN (k_shas (d + 109) sw f g y) ?_
    show WP _ _ _ 19 [_, _, _, _, _, _] [_] _
    refine wp_if_ne (tgt := 24) hX (dk DX10_shift 9 rfl) (by decide) (fun h19 => ?_) (fun h19 => ?_)
    · exact absurd ⟨jin_ex (n := 6) (by decide) h8, jin_ex (n := 6) (by decide) h19⟩ h
    · refine wp_iconst (v := -1) hX (dk DX10_shift 10 rfl) (by decide) ?_
      exact wp_ireturn hX hR (dk DX10_shift 11 rfl) rfl (Nat.le_refl _) (Nat.le_refl _) (⟨rfl, rfl⟩)
theorem t_shiftR (d : Nat) (sw : Bool) (f : Nat → Nat → Int32) (g : Nat → Nat → Int64) (b c : Nat) (i j n : Int32) (hb : b < 6) (hc : c < 6) (h : ¬ jsh (f 74 b) (f 75 b) (f 74 c) (f 75 c) i j n = 0) : CT (d + 110) 0 0 iX10_shift [.ref 0, .int (nI b), .int i, .int (nI c), .int j, .int n] (S sw f g) (rdC g f (jsh (f 74 b) (f 75 b) (f 74 c) (f 75 c) i j n)) := by
  refine CT.rdC ?_
  refine CT.of rfl (Nat.le_of_ble_eq_true rfl) (fun X hX hR hN _ => ?_)
  have hX : Good X RX10 cX10_shift (d + 110) 0 0 := hX
  have hN : x_nl X = 6 := hN
  show WP X 0 0 0 [_, _, _, _, _, _] [] _
  refine wp_aload_n hX (dk DX10_shift 0 rfl) rfl ?_
  refine w_getr hX flX10_72 (dk DX10_shift 1 rfl) rfl rfl ?_
  refine wp_iload_n hX (dk DX10_shift 2 rfl) rfl ?_
  refine w_callV (As := [_]) lkX10_91 hX (dk DX10_shift 3 rfl) rfl rfl (by decide) hN (k_shas (d + 109) sw f g (nI b)) ?_
  show WP _ _ _ 8 [_, _, _, _, _, _] [_] _
  rw [show jin (nI b) 6 = 1 from jin_1 (n := 6) (by decide) hb rfl]
  refine wp_if_eq (tgt := 22) hX (dk DX10_shift 4 rfl) (by decide) (fun h_ => absurd h_ (by decide)) (fun _ => ?_)
  refine wp_aload_n hX (dk DX10_shift 5 rfl) rfl ?_
  refine w_getr hX flX10_72 (dk DX10_shift 6 rfl) rfl rfl ?_
  refine wp_iload_n hX (dk DX10_shift 7 rfl) rfl ?_
  refine w_callV (As := [_]) lkX10_91 hX (dk DX10_shift 8 rfl) rfl rfl (by decide) hN (k_shas (d + 109) sw f g (nI c)) ?_
  show WP _ _ _ 19 [_, _, _, _, _, _] [_] _
  rw [show jin (nI c) 6 = 1 from jin_1 (n := 6) (by decide) hc rfl]
  refine wp_if_ne (tgt := 24) hX (dk DX10_shift 9 rfl) (by decide) (fun _ => ?_) (fun h_ => absurd h_ (by decide))
  refine wp_aload_n hX (dk DX10_shift 12 rfl) rfl ?_
  refine w_getr hX flX10_72 (dk DX10_shift 13 rfl) rfl rfl ?_
  refine wp_iload_n hX (dk DX10_shift 14 rfl) rfl ?_
  refine w_callV (As := [_]) lkX10_94 hX (dk DX10_shift 15 rfl) rfl rfl (by decide) hN (k_sortOf (d + 109) sw f g b hb) ?_
  show WP _ _ _ 32 [_, _, _, _, _, _] [_] _
  refine wp_iconst (v := -1) hX (dk DX10_shift 16 rfl) (by decide) ?_
  refine wp_icmp_eq (tgt := 48) hX (dk DX10_shift 17 rfl) (by decide) (fun h33 => ?_) (fun h33 => ?_)
  · refine wp_bipush (v := -11) hX (dk DX10_shift 24 rfl) (by decide) ?_
    exact wp_ireturn hX hR (dk DX10_shift 25 rfl) rfl (Nat.le_refl _) (Nat.le_refl _) (⟨by simp [jsh, h33] <;> simp_all, rfl⟩)
  · refine wp_aload_n hX (dk DX10_shift 18 rfl) rfl ?_
    refine w_getr hX flX10_72 (dk DX10_shift 19 rfl) rfl rfl ?_
    refine wp_iload_n hX (dk DX10_shift 20 rfl) rfl ?_
    refine w_callV (As := [_]) lkX10_94 hX (dk DX10_shift 21 rfl) rfl rfl (by decide) hN (k_sortOf (d + 109) sw f g c hc) ?_
    show WP _ _ _ 44 [_, _, _, _, _, _] [_] _
    refine wp_iconst (v := -1) hX (dk DX10_shift 22 rfl) (by decide) ?_
    refine wp_icmp_ne (tgt := 51) hX (dk DX10_shift 23 rfl) (by decide) (fun h45 => ?_) (fun h45 => ?_)
    · refine wp_aload_n hX (dk DX10_shift 26 rfl) rfl ?_
      refine w_getr hX flX10_72 (dk DX10_shift 27 rfl) rfl rfl ?_
      refine wp_iload_n hX (dk DX10_shift 28 rfl) rfl ?_
      refine w_callV (As := [_]) lkX10_326 hX (dk DX10_shift 29 rfl) rfl rfl (by decide) hN (k_isRow (d + 109) sw f g b hb) ?_
      show WP _ _ _ 59 [_, _, _, _, _, _] [_] _
      refine wp_if_eq (tgt := 81) hX (dk DX10_shift 30 rfl) (by decide) (fun h59 => ?_) (fun h59 => ?_)
      · refine wp_bipush (v := -12) hX (dk DX10_shift 40 rfl) (by decide) ?_
        exact wp_ireturn hX hR (dk DX10_shift 41 rfl) rfl (Nat.le_refl _) (Nat.le_refl _) (⟨by simp [jsh, h33, h45, h59] <;> simp_all, rfl⟩)
      · refine wp_aload_n hX (dk DX10_shift 31 rfl) rfl ?_
        refine w_getr hX flX10_72 (dk DX10_shift 32 rfl) rfl rfl ?_
        refine wp_iload_n hX (dk DX10_shift 33 rfl) rfl ?_
        refine w_callV (As := [_]) lkX10_94 hX (dk DX10_shift 34 rfl) rfl rfl (by decide) hN (k_sortOf (d + 109) sw f g b hb) ?_
        show WP _ _ _ 70 [_, _, _, _, _, _] [_] _
        refine wp_aload_n hX (dk DX10_shift 35 rfl) rfl ?_
        refine w_getr hX flX10_72 (dk DX10_shift 36 rfl) rfl rfl ?_
        refine wp_iload_n hX (dk DX10_shift 37 rfl) rfl ?_
        refine w_callV (As := [_]) lkX10_94 hX (dk DX10_shift 38 rfl) rfl rfl (by simp [Value.category]) hN (k_sortOf (d + 109) sw f g c hc) ?_
        show WP _ _ _ 78 [_, _, _, _, _, _] [_, _] _
        refine wp_icmp_eq (tgt := 84) hX (dk DX10_shift 39 rfl) (by decide) (fun h78 => ?_) (fun h78 => ?_)
        · refine wp_aload_n hX (dk DX10_shift 42 rfl) rfl ?_
          refine w_getr hX flX10_72 (dk DX10_shift 43 rfl) rfl rfl ?_
          refine wp_iload_n hX (dk DX10_shift 44 rfl) rfl ?_
          refine wp_iload_n hX (dk DX10_shift 45 rfl) rfl ?_
          refine wp_iload hX (dk DX10_shift 46 rfl) rfl ?_
          refine w_callV (As := [_, _, _]) lkX10_329 hX (dk DX10_shift 47 rfl) rfl rfl (by decide) hN (k_hasStretch (d + 109) sw f g b i n hb) ?_
          show WP _ _ _ 95 [_, _, _, _, _, _] [_] _
          refine wp_if_eq (tgt := 113) hX (dk DX10_shift 48 rfl) (by decide) (fun h95 => ?_) (fun h95 => ?_)
          · refine wp_bipush (v := -13) hX (dk DX10_shift 56 rfl) (by decide) ?_
            exact wp_ireturn hX hR (dk DX10_shift 57 rfl) rfl (Nat.le_refl _) (Nat.le_refl _) (⟨by simp [jsh, h33, h45, h59, h78, h95] <;> simp_all, rfl⟩)
          · refine wp_aload_n hX (dk DX10_shift 49 rfl) rfl ?_
            refine w_getr hX flX10_72 (dk DX10_shift 50 rfl) rfl rfl ?_
            refine wp_iload_n hX (dk DX10_shift 51 rfl) rfl ?_
            refine wp_iload hX (dk DX10_shift 52 rfl) rfl ?_
            refine wp_iload hX (dk DX10_shift 53 rfl) rfl ?_
            refine w_callV (As := [_, _, _]) lkX10_329 hX (dk DX10_shift 54 rfl) rfl rfl (by decide) hN (k_hasStretch (d + 109) sw f g c j n hc) ?_
            show WP _ _ _ 110 [_, _, _, _, _, _] [_] _
            refine wp_if_ne (tgt := 116) hX (dk DX10_shift 55 rfl) (by decide) (fun h110 => ?_) (fun h110 => ?_)
            · exact absurd (by unfold jsh; rw [if_neg (fun q => q.elim h33 h45), if_neg (fun q => q.elim h59 (fun e => e h78)), if_neg (fun q => q.elim h95 h110)]) h
            · refine wp_bipush (v := -13) hX (dk DX10_shift 56 rfl) (by decide) ?_
              exact wp_ireturn hX hR (dk DX10_shift 57 rfl) rfl (Nat.le_refl _) (Nat.le_refl _) (⟨by simp [jsh, h33, h45, h59, h78, h95, h110] <;> simp_all, rfl⟩)
        · refine wp_bipush (v := -12) hX (dk DX10_shift 40 rfl) (by decide) ?_
          exact wp_ireturn hX hR (dk DX10_shift 41 rfl) rfl (Nat.le_refl _) (Nat.le_refl _) (⟨by simp [jsh, h33, h45, h59, h78] <;> simp_all, rfl⟩)
    · refine wp_bipush (v := -11) hX (dk DX10_shift 24 rfl) (by decide) ?_
      exact wp_ireturn hX hR (dk DX10_shift 25 rfl) rfl (Nat.le_refl _) (Nat.le_refl _) (⟨by simp [jsh, h33, h45] <;> simp_all, rfl⟩)
theorem jsh_0 {s z s2 z2 i j n : Int32} (h : jsh s z s2 z2 i j n = 0) : (∃ k, k < 5 ∧ s = nI k) ∧ s = s2 ∧ ¬ jstr z i n = 0 ∧ ¬ jstr z2 j n = 0 := by
  unfold jsh at h
  split at h
  · cases h
  · split at h
    · cases h
    · next c =>
      split at h
      · cases h
      · next c2 => exact ⟨jin_ex (n := 5) (by decide) (fun q => c (Or.inl q)), Decidable.byContradiction (fun q => c (Or.inr q)), fun q => c2 (Or.inl q), fun q => c2 (Or.inr q)⟩
theorem t_shift1 (d : Nat) (sw : Bool) (f : Nat → Nat → Int32) (g : Nat → Nat → Int64) (b c i j n : Nat) (hb : b < 6) (hc : c < 6) (hi : i + n ≤ 60) (hj : j + n ≤ 60) (h : jsh (f 74 b) (f 75 b) (f 74 c) (f 75 c) (nI i) (nI j) (nI n) = 0) : CT (d + 110) 0 0 iX10_shift [.ref 0, .int (nI b), .int (nI i), .int (nI c), .int (nI j), .int (nI n)] (S sw f g) (QR (some (.int (nI n))) (S sw f (u1 g 76 (va_cpy (g 76) (g 76) (b * 60 + i) (c * 60 + j) n)))) := by
  obtain ⟨⟨k, hk, e1⟩, e2, e3, e4⟩ := jsh_0 h
  have hne : ¬ nI k = -1 := fun q => nI_pos (n := k) (by omega) (by rw [q]; decide)
  refine CT.of rfl (Nat.le_of_ble_eq_true rfl) (fun X hX hR hN _ => ?_)
  have hX : Good X RX10 cX10_shift (d + 110) 0 0 := hX
  have hN : x_nl X = 6 := hN
  show WP X 0 0 0 [_, _, _, _, _, _] [] _
  refine wp_aload_n hX (dk DX10_shift 0 rfl) rfl ?_
  refine w_getr hX flX10_72 (dk DX10_shift 1 rfl) rfl rfl ?_
  refine wp_iload_n hX (dk DX10_shift 2 rfl) rfl ?_
  refine w_callV (As := [_]) lkX10_91 hX (dk DX10_shift 3 rfl) rfl rfl (by decide) hN (k_shas (d + 109) sw f g (nI b)) ?_
  show WP _ _ _ 8 [_, _, _, _, _, _] [_] _
  rw [show jin (nI b) 6 = 1 from jin_1 (n := 6) (by decide) hb rfl]
  refine wp_if_eq (tgt := 22) hX (dk DX10_shift 4 rfl) (by decide) (fun h_ => absurd h_ (by decide)) (fun _ => ?_)
  refine wp_aload_n hX (dk DX10_shift 5 rfl) rfl ?_
  refine w_getr hX flX10_72 (dk DX10_shift 6 rfl) rfl rfl ?_
  refine wp_iload_n hX (dk DX10_shift 7 rfl) rfl ?_
  refine w_callV (As := [_]) lkX10_91 hX (dk DX10_shift 8 rfl) rfl rfl (by decide) hN (k_shas (d + 109) sw f g (nI c)) ?_
  show WP _ _ _ 19 [_, _, _, _, _, _] [_] _
  rw [show jin (nI c) 6 = 1 from jin_1 (n := 6) (by decide) hc rfl]
  refine wp_if_ne (tgt := 24) hX (dk DX10_shift 9 rfl) (by decide) (fun _ => ?_) (fun h_ => absurd h_ (by decide))
  refine wp_aload_n hX (dk DX10_shift 12 rfl) rfl ?_
  refine w_getr hX flX10_72 (dk DX10_shift 13 rfl) rfl rfl ?_
  refine wp_iload_n hX (dk DX10_shift 14 rfl) rfl ?_
  refine w_callV (As := [_]) lkX10_94 hX (dk DX10_shift 15 rfl) rfl rfl (by decide) hN (k_sortOf (d + 109) sw f g b hb) ?_
  show WP _ _ _ 32 [_, _, _, _, _, _] [_] _
  refine wp_iconst (v := -1) hX (dk DX10_shift 16 rfl) (by decide) ?_
  refine wp_icmp_eq (tgt := 48) hX (dk DX10_shift 17 rfl) (by decide) (fun h_ => absurd h_ (by rw [e1]; exact hne)) (fun _ => ?_)
  refine wp_aload_n hX (dk DX10_shift 18 rfl) rfl ?_
  refine w_getr hX flX10_72 (dk DX10_shift 19 rfl) rfl rfl ?_
  refine wp_iload_n hX (dk DX10_shift 20 rfl) rfl ?_
  refine w_callV (As := [_]) lkX10_94 hX (dk DX10_shift 21 rfl) rfl rfl (by decide) hN (k_sortOf (d + 109) sw f g c hc) ?_
  show WP _ _ _ 44 [_, _, _, _, _, _] [_] _
  refine wp_iconst (v := -1) hX (dk DX10_shift 22 rfl) (by decide) ?_
  refine wp_icmp_ne (tgt := 51) hX (dk DX10_shift 23 rfl) (by decide) (fun _ => ?_) (fun h_ => absurd h_ (by rw [← e2, e1]; exact hne))
  refine wp_aload_n hX (dk DX10_shift 26 rfl) rfl ?_
  refine w_getr hX flX10_72 (dk DX10_shift 27 rfl) rfl rfl ?_
  refine wp_iload_n hX (dk DX10_shift 28 rfl) rfl ?_
  refine w_callV (As := [_]) lkX10_326 hX (dk DX10_shift 29 rfl) rfl rfl (by decide) hN (k_isRow (d + 109) sw f g b hb) ?_
  show WP _ _ _ 59 [_, _, _, _, _, _] [_] _
  refine wp_if_eq (tgt := 81) hX (dk DX10_shift 30 rfl) (by decide) (fun h_ => absurd h_ (by rw [e1, show jin (nI k) 5 = 1 from jin_1 (n := 5) (by decide) hk rfl]; decide)) (fun _ => ?_)
  refine wp_aload_n hX (dk DX10_shift 31 rfl) rfl ?_
  refine w_getr hX flX10_72 (dk DX10_shift 32 rfl) rfl rfl ?_
  refine wp_iload_n hX (dk DX10_shift 33 rfl) rfl ?_
  refine w_callV (As := [_]) lkX10_94 hX (dk DX10_shift 34 rfl) rfl rfl (by decide) hN (k_sortOf (d + 109) sw f g b hb) ?_
  show WP _ _ _ 70 [_, _, _, _, _, _] [_] _
  refine wp_aload_n hX (dk DX10_shift 35 rfl) rfl ?_
  refine w_getr hX flX10_72 (dk DX10_shift 36 rfl) rfl rfl ?_
  refine wp_iload_n hX (dk DX10_shift 37 rfl) rfl ?_
  refine w_callV (As := [_]) lkX10_94 hX (dk DX10_shift 38 rfl) rfl rfl (by simp [Value.category]) hN (k_sortOf (d + 109) sw f g c hc) ?_
  show WP _ _ _ 78 [_, _, _, _, _, _] [_, _] _
  refine wp_icmp_eq (tgt := 84) hX (dk DX10_shift 39 rfl) (by decide) (fun _ => ?_) (fun h_ => absurd (e2) h_)
  refine wp_aload_n hX (dk DX10_shift 42 rfl) rfl ?_
  refine w_getr hX flX10_72 (dk DX10_shift 43 rfl) rfl rfl ?_
  refine wp_iload_n hX (dk DX10_shift 44 rfl) rfl ?_
  refine wp_iload_n hX (dk DX10_shift 45 rfl) rfl ?_
  refine wp_iload hX (dk DX10_shift 46 rfl) rfl ?_
  refine w_callV (As := [_, _, _]) lkX10_329 hX (dk DX10_shift 47 rfl) rfl rfl (by decide) hN (k_hasStretch (d + 109) sw f g b _ _ hb) ?_
  show WP _ _ _ 95 [_, _, _, _, _, _] [_] _
  refine wp_if_eq (tgt := 113) hX (dk DX10_shift 48 rfl) (by decide) (fun h_ => absurd h_ (e3)) (fun _ => ?_)
  refine wp_aload_n hX (dk DX10_shift 49 rfl) rfl ?_
  refine w_getr hX flX10_72 (dk DX10_shift 50 rfl) rfl rfl ?_
  refine wp_iload_n hX (dk DX10_shift 51 rfl) rfl ?_
  refine wp_iload hX (dk DX10_shift 52 rfl) rfl ?_
  refine wp_iload hX (dk DX10_shift 53 rfl) rfl ?_
  refine w_callV (As := [_, _, _]) lkX10_329 hX (dk DX10_shift 54 rfl) rfl rfl (by decide) hN (k_hasStretch (d + 109) sw f g c _ _ hc) ?_
  show WP _ _ _ 110 [_, _, _, _, _, _] [_] _
  refine wp_if_ne (tgt := 116) hX (dk DX10_shift 55 rfl) (by decide) (fun _ => ?_) (fun h_ => absurd h_ (e4))
  refine wp_aload_n hX (dk DX10_shift 58 rfl) rfl ?_
  refine w_getr hX flX10_72 (dk DX10_shift 59 rfl) rfl rfl ?_
  refine wp_iload_n hX (dk DX10_shift_1 0 rfl) rfl ?_
  refine wp_iload_n hX (dk DX10_shift_1 1 rfl) rfl ?_
  refine wp_iload_n hX (dk DX10_shift_1 2 rfl) rfl ?_
  refine wp_iload hX (dk DX10_shift_1 3 rfl) rfl ?_
  refine wp_iload hX (dk DX10_shift_1 4 rfl) rfl ?_
  refine w_callV (As := [_, _, _, _, _]) lkX10_333 hX (dk DX10_shift_1 5 rfl) rfl rfl (by decide) hN (k_copy (d + 108) sw f g b i c j n hb hc hi hj) ?_
  show WP _ _ _ 130 [_, _, _, _, _, _] [] _
  refine wp_iload hX (dk DX10_shift_1 6 rfl) rfl ?_
  exact wp_ireturn hX hR (dk DX10_shift_1 7 rfl) rfl (Nat.le_refl _) (Nat.le_refl _) (⟨rfl, rfl⟩)
theorem t_taken0 (d : Nat) (sw : Bool) (f : Nat → Nat → Int32) (g : Nat → Nat → Int64) (x y : Int32) (h : ¬ ((∃ b, b < 6 ∧ x = nI b) ∧ ∃ k, k < 8 ∧ y = nI k)) : CT (d + 110) 0 0 iX10_taken [.ref 0, .int x, .int y] (S sw f g) (rdC g f (-1)) := by
  refine CT.rdC ?_
  refine CT.of rfl (Nat.le_of_ble_eq_true rfl) (fun X hX hR hN _ => ?_)
  have hX : Good X RX10 cX10_taken (d + 110) 0 0 := hX
  have hN : x_nl X = 4 := hN
  show WP X 0 0 0 [_, _, _, _] [] _
  refine wp_aload_n hX (dk DX10_taken 0 rfl) rfl ?_
  refine w_getr hX flX10_72 (dk DX10_taken 1 rfl) rfl rfl ?_
  refine wp_iload_n hX (dk DX10_taken 2 rfl) rfl ?_
  refine w_callV (As := [_]) lkX10_91 hX (dk DX10_taken 3 rfl) rfl rfl (by decide) hN (k_shas (d + 109) sw f g x) ?_
  show WP _ _ _ 8 [_, _, _, _] [_] _
  refine wp_if_eq (tgt := 21) hX (dk DX10_taken 4 rfl) (by decide) (fun h8 => ?_) (fun h8 => ?_)
  · refine wp_iconst (v := -1) hX (dk DX10_taken 10 rfl) (by decide) ?_
    exact wp_ireturn hX hR (dk DX10_taken 11 rfl) rfl (Nat.le_refl _) (Nat.le_refl _) (⟨rfl, rfl⟩)
  · refine wp_iload_n hX (dk DX10_taken 5 rfl) rfl ?_
    refine wp_if_lt (tgt := 21) hX (dk DX10_taken 6 rfl) (by decide) (fun h12 => ?_) (fun h12 => ?_)
    · refine wp_iconst (v := -1) hX (dk DX10_taken 10 rfl) (by decide) ?_
      exact wp_ireturn hX hR (dk DX10_taken 11 rfl) rfl (Nat.le_refl _) (Nat.le_refl _) (⟨rfl, rfl⟩)
    · refine wp_iload_n hX (dk DX10_taken 7 rfl) rfl ?_
      refine wp_bipush (v := 8) hX (dk DX10_taken 8 rfl) (by decide) ?_
      refine wp_icmp_lt (tgt := 23) hX (dk DX10_taken 9 rfl) (by decide) (fun h18 => ?_) (fun h18 => ?_)
      · exact absurd ⟨jin_ex (n := 6) (by decide) h8, rg_lt (k := 8) (by decide) h12 (Int32.not_le.mpr h18)⟩ h
      · refine wp_iconst (v := -1) hX (dk DX10_taken 10 rfl) (by decide) ?_
        exact wp_ireturn hX hR (dk DX10_taken 11 rfl) rfl (Nat.le_refl _) (Nat.le_refl _) (⟨rfl, rfl⟩)
theorem t_takenR (d : Nat) (sw : Bool) (f : Nat → Nat → Int32) (g : Nat → Nat → Int64) (b k : Nat) (hb : b < 6) (hk : k < 8) (h : ¬ f 74 b = 5) : CT (d + 110) 0 0 iX10_taken [.ref 0, .int (nI b), .int (nI k)] (S sw f g) (rdC g f (if f 74 b = -1 then -11 else -12)) := by
  refine CT.rdC ?_
  refine CT.of rfl (Nat.le_of_ble_eq_true rfl) (fun X hX hR hN _ => ?_)
  have hX : Good X RX10 cX10_taken (d + 110) 0 0 := hX
  have hN : x_nl X = 4 := hN
  show WP X 0 0 0 [_, _, _, _] [] _
  refine wp_aload_n hX (dk DX10_taken 0 rfl) rfl ?_
  refine w_getr hX flX10_72 (dk DX10_taken 1 rfl) rfl rfl ?_
  refine wp_iload_n hX (dk DX10_taken 2 rfl) rfl ?_
  refine w_callV (As := [_]) lkX10_91 hX (dk DX10_taken 3 rfl) rfl rfl (by decide) hN (k_shas (d + 109) sw f g (nI b)) ?_
  show WP _ _ _ 8 [_, _, _, _] [_] _
  rw [show jin (nI b) 6 = 1 from jin_1 (n := 6) (by decide) hb rfl]
  refine wp_if_eq (tgt := 21) hX (dk DX10_taken 4 rfl) (by decide) (fun h_ => absurd h_ (by decide)) (fun _ => ?_)
  refine wp_iload_n hX (dk DX10_taken 5 rfl) rfl ?_
  refine wp_if_lt (tgt := 21) hX (dk DX10_taken 6 rfl) (by decide) (fun h_ => absurd h_ (nI_pos (by omega))) (fun _ => ?_)
  refine wp_iload_n hX (dk DX10_taken 7 rfl) rfl ?_
  refine wp_bipush (v := 8) hX (dk DX10_taken 8 rfl) (by decide) ?_
  refine wp_icmp_lt (tgt := 23) hX (dk DX10_taken 9 rfl) (by decide) (fun _ => ?_) (fun h_ => absurd (nI_lt (b := 8) (by omega) (by omega)) h_)
  refine wp_aload_n hX (dk DX10_taken 12 rfl) rfl ?_
  refine w_getr hX flX10_72 (dk DX10_taken 13 rfl) rfl rfl ?_
  refine wp_iload_n hX (dk DX10_taken 14 rfl) rfl ?_
  refine w_callV (As := [_]) lkX10_94 hX (dk DX10_taken 15 rfl) rfl rfl (by decide) hN (k_sortOf (d + 109) sw f g b hb) ?_
  show WP _ _ _ 31 [_, _, _, _] [_] _
  refine wp_iconst (v := -1) hX (dk DX10_taken 16 rfl) (by decide) ?_
  refine wp_icmp_ne (tgt := 38) hX (dk DX10_taken 17 rfl) (by decide) (fun h32 => ?_) (fun h32 => ?_)
  · refine wp_aload_n hX (dk DX10_taken 20 rfl) rfl ?_
    refine w_getr hX flX10_72 (dk DX10_taken 21 rfl) rfl rfl ?_
    refine wp_iload_n hX (dk DX10_taken 22 rfl) rfl ?_
    refine w_callV (As := [_]) lkX10_94 hX (dk DX10_taken 23 rfl) rfl rfl (by decide) hN (k_sortOf (d + 109) sw f g b hb) ?_
    show WP _ _ _ 46 [_, _, _, _] [_] _
    refine wp_iconst (v := 5) hX (dk DX10_taken 24 rfl) (by decide) ?_
    refine wp_icmp_eq (tgt := 53) hX (dk DX10_taken 25 rfl) (by decide) (fun h_ => absurd h_ (h)) (fun _ => ?_)
    refine wp_bipush (v := -12) hX (dk DX10_taken 26 rfl) (by decide) ?_
    exact wp_ireturn hX hR (dk DX10_taken 27 rfl) rfl (Nat.le_refl _) (Nat.le_refl _) (⟨by simp [h32], rfl⟩)
  · refine wp_bipush (v := -11) hX (dk DX10_taken 18 rfl) (by decide) ?_
    exact wp_ireturn hX hR (dk DX10_taken 19 rfl) rfl (Nat.le_refl _) (Nat.le_refl _) (⟨by simp [h32], rfl⟩)
theorem t_taken1 (d : Nat) (sw : Bool) (f : Nat → Nat → Int32) (g : Nat → Nat → Int64) (b k s k0 : Nat) (hb : b < 6) (hk : k < 8) (h : f 74 b = 5) (hs : f 75 b = nI s) (hs50 : s < 50) (hk0 : f 71 s = nI k0) (hk08 : k0 < 8) : CT (d + 110) 0 0 iX10_taken [.ref 0, .int (nI b), .int (nI k)] (S sw f g) (rdC g f (if junder 3 k0 (nI k) = 0 then -12 else nI k0)) := by
  refine CT.rdC ?_
  refine CT.of rfl (Nat.le_of_ble_eq_true rfl) (fun X hX hR hN _ => ?_)
  have hX : Good X RX10 cX10_taken (d + 110) 0 0 := hX
  have hN : x_nl X = 4 := hN
  show WP X 0 0 0 [_, _, _, _] [] _
  refine wp_aload_n hX (dk DX10_taken 0 rfl) rfl ?_
  refine w_getr hX flX10_72 (dk DX10_taken 1 rfl) rfl rfl ?_
  refine wp_iload_n hX (dk DX10_taken 2 rfl) rfl ?_
  refine w_callV (As := [_]) lkX10_91 hX (dk DX10_taken 3 rfl) rfl rfl (by decide) hN (k_shas (d + 109) sw f g (nI b)) ?_
  show WP _ _ _ 8 [_, _, _, _] [_] _
  rw [show jin (nI b) 6 = 1 from jin_1 (n := 6) (by decide) hb rfl]
  refine wp_if_eq (tgt := 21) hX (dk DX10_taken 4 rfl) (by decide) (fun h_ => absurd h_ (by decide)) (fun _ => ?_)
  refine wp_iload_n hX (dk DX10_taken 5 rfl) rfl ?_
  refine wp_if_lt (tgt := 21) hX (dk DX10_taken 6 rfl) (by decide) (fun h_ => absurd h_ (nI_pos (by omega))) (fun _ => ?_)
  refine wp_iload_n hX (dk DX10_taken 7 rfl) rfl ?_
  refine wp_bipush (v := 8) hX (dk DX10_taken 8 rfl) (by decide) ?_
  refine wp_icmp_lt (tgt := 23) hX (dk DX10_taken 9 rfl) (by decide) (fun _ => ?_) (fun h_ => absurd (nI_lt (b := 8) (by omega) (by omega)) h_)
  refine wp_aload_n hX (dk DX10_taken 12 rfl) rfl ?_
  refine w_getr hX flX10_72 (dk DX10_taken 13 rfl) rfl rfl ?_
  refine wp_iload_n hX (dk DX10_taken 14 rfl) rfl ?_
  refine w_callV (As := [_]) lkX10_94 hX (dk DX10_taken 15 rfl) rfl rfl (by decide) hN (k_sortOf (d + 109) sw f g b hb) ?_
  show WP _ _ _ 31 [_, _, _, _] [_] _
  refine wp_iconst (v := -1) hX (dk DX10_taken 16 rfl) (by decide) ?_
  refine wp_icmp_ne (tgt := 38) hX (dk DX10_taken 17 rfl) (by decide) (fun _ => ?_) (fun h_ => absurd h_ (by rw [h]; decide))
  refine wp_aload_n hX (dk DX10_taken 20 rfl) rfl ?_
  refine w_getr hX flX10_72 (dk DX10_taken 21 rfl) rfl rfl ?_
  refine wp_iload_n hX (dk DX10_taken 22 rfl) rfl ?_
  refine w_callV (As := [_]) lkX10_94 hX (dk DX10_taken 23 rfl) rfl rfl (by decide) hN (k_sortOf (d + 109) sw f g b hb) ?_
  show WP _ _ _ 46 [_, _, _, _] [_] _
  refine wp_iconst (v := 5) hX (dk DX10_taken 24 rfl) (by decide) ?_
  refine wp_icmp_eq (tgt := 53) hX (dk DX10_taken 25 rfl) (by decide) (fun _ => ?_) (fun h_ => absurd (h) h_)
  refine wp_aload_n hX (dk DX10_taken 28 rfl) rfl ?_
  refine w_getr hX flX10_65 (dk DX10_taken 29 rfl) rfl rfl ?_
  refine wp_aload_n hX (dk DX10_taken 30 rfl) rfl ?_
  refine w_getr hX flX10_72 (dk DX10_taken 31 rfl) rfl rfl ?_
  refine wp_iload_n hX (dk DX10_taken 32 rfl) rfl ?_
  refine w_callV (As := [_]) lkX10_337 hX (dk DX10_taken 33 rfl) rfl rfl (by simp [Value.category]) hN (k_sizeOf (d + 109) sw f g b hb) ?_
  show WP _ _ _ 65 [_, _, _, _] [_, _] _
  rw [hs]
  refine w_callV (As := [_]) lkX10_340 hX (dk DX10_taken 34 rfl) rfl rfl (by decide) hN (k_kindOf (d + 109) sw f g s hs50) ?_
  show WP _ _ _ 68 [_, _, _, _] [_] _
  rw [hk0]
  refine wp_istore_n hX (dk DX10_taken 35 rfl) rfl rfl hN (Nat.le_of_ble_eq_true rfl) ?_
  show WP _ _ _ 69 [_, _, _, _] [] _
  refine wp_iload_n hX (dk DX10_taken 36 rfl) rfl ?_
  refine wp_iload_n hX (dk DX10_taken 37 rfl) rfl ?_
  refine w_callS (As := [_, _]) lkX10_343 hX (dk DX10_taken 38 rfl) rfl (by decide) (k_isUnder (d + 109) sw f g k0 _ hk08) ?_
  show WP _ _ _ 74 [_, _, _, _] [_] _
  refine wp_if_eq (tgt := 81) hX (dk DX10_taken 39 rfl) (by decide) (fun h74 => ?_) (fun h74 => ?_)
  · refine wp_bipush (v := -12) hX (dk DX10_taken 42 rfl) (by decide) ?_
    exact wp_ireturn hX hR (dk DX10_taken 43 rfl) rfl (Nat.le_refl _) (Nat.le_refl _) (⟨by simp [h74], rfl⟩)
  · refine wp_iload_n hX (dk DX10_taken 40 rfl) rfl ?_
    refine wp_goto (tgt := 83) hX (dk DX10_taken 41 rfl) (by decide) ?_
    exact wp_ireturn hX hR (dk DX10_taken 43 rfl) rfl (Nat.le_refl _) (Nat.le_refl _) (⟨by simp [h74], rfl⟩)
theorem t_count (d : Nat) (sw : Bool) (f : Nat → Nat → Int32) (g : Nat → Nat → Int64) (x : Int32) : CT (d + 110) 0 0 iX10_count [.ref 0, .int x] (S sw f g) (rdC g f (if x = 0 then f 1 4 else if x = 1 then f 61 6 else if x = 2 then f 46 2 else if x = 3 then f 68 1 else if x = 4 then f 70 2 else if x = 5 then f 70 3 else -1)) := by
  refine CT.rdC ?_
  refine CT.of rfl (Nat.le_of_ble_eq_true rfl) (fun X hX hR hN _ => ?_)
  have hX : Good X RX10 cX10_count (d + 110) 0 0 := hX
  have hN : x_nl X = 2 := hN
  show WP X 0 0 0 [_, _] [] _
  refine wp_iload_n hX (dk DX10_count 0 rfl) rfl ?_
  refine wp_eqc 0 (fun h1_0 => ?_) (fun h1_0 => ?_)
  · refine wp_tabAt (c := 0) (off := 39) (tgt := 40) hX (dk DX10_count 1 rfl) h1_0 (by decide) (by decide) (by decide) (by decide) ?_
    refine wp_aload_n hX (dk DX10_count 2 rfl) rfl ?_
    refine w_getr hX flX10_10 (dk DX10_count 3 rfl) rfl rfl ?_
    refine w_callV (As := []) lkX10_229 hX (dk DX10_count 4 rfl) rfl rfl (by decide) hN (k_came (d + 109) sw f g) ?_
    show WP _ _ _ 47 [_, _] [_] _
    exact wp_ireturn hX hR (dk DX10_count 5 rfl) rfl (Nat.le_refl _) (Nat.le_refl _) (⟨by simp [h1_0], rfl⟩)
  refine wp_eqc 1 (fun h1_1 => ?_) (fun h1_1 => ?_)
  · refine wp_tabAt (c := 1) (off := 47) (tgt := 48) hX (dk DX10_count 1 rfl) h1_1 (by decide) (by decide) (by decide) (by decide) ?_
    refine wp_aload_n hX (dk DX10_count 6 rfl) rfl ?_
    refine w_getr hX flX10_51 (dk DX10_count 7 rfl) rfl rfl ?_
    refine w_callV (As := []) lkX10_346 hX (dk DX10_count 8 rfl) rfl rfl (by decide) hN (k_blocks (d + 109) sw f g) ?_
    show WP _ _ _ 55 [_, _] [_] _
    exact wp_ireturn hX hR (dk DX10_count 9 rfl) rfl (Nat.le_refl _) (Nat.le_refl _) (⟨by simp [h1_0, h1_1], rfl⟩)
  refine wp_eqc 2 (fun h1_2 => ?_) (fun h1_2 => ?_)
  · refine wp_tabAt (c := 2) (off := 55) (tgt := 56) hX (dk DX10_count 1 rfl) h1_2 (by decide) (by decide) (by decide) (by decide) ?_
    refine wp_aload_n hX (dk DX10_count 10 rfl) rfl ?_
    refine w_getr hX flX10_19 (dk DX10_count 11 rfl) rfl rfl ?_
    refine w_callV (As := []) lkX10_349 hX (dk DX10_count 12 rfl) rfl rfl (by decide) hN (k_tlength (d + 109) sw f g) ?_
    show WP _ _ _ 63 [_, _] [_] _
    exact wp_ireturn hX hR (dk DX10_count 13 rfl) rfl (Nat.le_refl _) (Nat.le_refl _) (⟨by simp [h1_0, h1_1, h1_2], rfl⟩)
  refine wp_eqc 3 (fun h1_3 => ?_) (fun h1_3 => ?_)
  · refine wp_tabAt (c := 3) (off := 63) (tgt := 64) hX (dk DX10_count 1 rfl) h1_3 (by decide) (by decide) (by decide) (by decide) ?_
    refine wp_aload_n hX (dk DX10_count 14 rfl) rfl ?_
    refine w_getr hX flX10_58 (dk DX10_count 15 rfl) rfl rfl ?_
    refine w_callV (As := []) lkX10_352 hX (dk DX10_count 16 rfl) rfl rfl (by decide) hN (k_done (d + 109) sw f g) ?_
    show WP _ _ _ 71 [_, _] [_] _
    exact wp_ireturn hX hR (dk DX10_count 17 rfl) rfl (Nat.le_refl _) (Nat.le_refl _) (⟨by simp [h1_0, h1_1, h1_2, h1_3], rfl⟩)
  refine wp_eqc 4 (fun h1_4 => ?_) (fun h1_4 => ?_)
  · refine wp_tabAt (c := 4) (off := 71) (tgt := 72) hX (dk DX10_count 1 rfl) h1_4 (by decide) (by decide) (by decide) (by decide) ?_
    refine wp_aload_n hX (dk DX10_count 18 rfl) rfl ?_
    refine w_getr hX flX10_65 (dk DX10_count 19 rfl) rfl rfl ?_
    refine w_callV (As := []) lkX10_355 hX (dk DX10_count 20 rfl) rfl rfl (by decide) hN (k_kept (d + 109) sw f g) ?_
    show WP _ _ _ 79 [_, _] [_] _
    exact wp_ireturn hX hR (dk DX10_count 21 rfl) rfl (Nat.le_refl _) (Nat.le_refl _) (⟨by simp [h1_0, h1_1, h1_2, h1_3, h1_4], rfl⟩)
  refine wp_eqc 5 (fun h1_5 => ?_) (fun h1_5 => ?_)
  · refine wp_tabAt (c := 5) (off := 79) (tgt := 80) hX (dk DX10_count 1 rfl) h1_5 (by decide) (by decide) (by decide) (by decide) ?_
    refine wp_aload_n hX (dk DX10_count 22 rfl) rfl ?_
    refine w_getr hX flX10_65 (dk DX10_count 23 rfl) rfl rfl ?_
    refine w_callV (As := []) lkX10_358 hX (dk DX10_count 24 rfl) rfl rfl (by decide) hN (k_ran (d + 109) sw f g) ?_
    show WP _ _ _ 87 [_, _] [_] _
    exact wp_ireturn hX hR (dk DX10_count 25 rfl) rfl (Nat.le_refl _) (Nat.le_refl _) (⟨by simp [h1_0, h1_1, h1_2, h1_3, h1_4, h1_5], rfl⟩)
  · refine wp_tabOut (tgt := 88) hX (dk DX10_count 1 rfl) (by have := ne_toI h1_0 (k := 0) (by decide); have := ne_toI h1_1 (k := 1) (by decide); have := ne_toI h1_2 (k := 2) (by decide); have := ne_toI h1_3 (k := 3) (by decide); have := ne_toI h1_4 (k := 4) (by decide); have := ne_toI h1_5 (k := 5) (by decide); omega) (by decide) ?_
    refine wp_iconst (v := -1) hX (dk DX10_count 26 rfl) (by decide) ?_
    exact wp_ireturn hX hR (dk DX10_count 27 rfl) rfl (Nat.le_refl _) (Nat.le_refl _) (⟨by simp [h1_0, h1_1, h1_2, h1_3, h1_4, h1_5], rfl⟩)
