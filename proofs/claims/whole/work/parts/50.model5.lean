/-! THE REFERENCE'S CALLS: undo, redo, feed, shapes -/
theorem u_undo0 (d : Nat) (sw : Bool) (f : Nat → Nat → Int32) (g : Nat → Nat → Int64) (h : f 81 35 = nI 0) : CT (d + 110) 0 0 iX11_undo [.ref 81] (S sw f g) (rdM g f (-5)) := by
  refine CT.rdM ?_
  refine CT.of rfl (Nat.le_of_ble_eq_true rfl) (fun X hX hR hN _ => ?_)
  have hX : Good X RX11 cX11_undo (d + 110) 0 0 := hX
  have hN : x_nl X = 1 := hN
  show WP X 0 0 0 [_] [] _
  refine wp_aload_n hX (dk DX11_undo 0 rfl) rfl ?_
  refine w_geti hX flX11_186 (dk DX11_undo 1 rfl) (by decide) rfl ?_
  rw [h]
  refine wp_if_ne (tgt := 10) hX (dk DX11_undo 2 rfl) (by decide) (fun h_ => absurd (rfl) h_) (fun _ => ?_)
  refine wp_bipush (v := -5) hX (dk DX11_undo 3 rfl) (by decide) ?_
  exact wp_ireturn hX hR (dk DX11_undo 4 rfl) rfl (Nat.le_refl _) (Nat.le_refl _) (⟨rfl, rfl⟩)
theorem ix4' (n k : Nat) : (4 : Int32) * nI n + nI k = nI (4 * n + k) := by rw [show (4 : Int32) = nI 4 from rfl, pk_mul, nI_add]
theorem u_undo1 (d : Nat) (sw : Bool) (f : Nat → Nat → Int32) (g : Nat → Nat → Int64) (n i w : Nat) (hn : n < 40) (h : f 81 35 = nI (n + 1)) (hi : f 103 (4 * n) = nI i) (hw : f 103 (4 * n + 1) = nI w) (hi10 : i < 10) (hw3 : w < 3) : CT (d + 110) 0 0 iX11_undo [.ref 81] (S sw f g) (QR (some (.int (nI n))) (S sw (u2 (u2 f 81 35 (nI n)) (83 + w) i (f 103 (4 * n + 2))) g)) := by
  have e0 : (4 : Int32) * nI n = nI (4 * n) := by rw [show (4 : Int32) = nI 4 from rfl, pk_mul]
  have e103 : u2 f 81 35 (nI n) 103 = f 103 := u2_ne _ _ _ (by decide)
  refine CT.of rfl (Nat.le_of_ble_eq_true rfl) (fun X hX hR hN _ => ?_)
  have hX : Good X RX11 cX11_undo (d + 110) 0 0 := hX
  have hN : x_nl X = 1 := hN
  show WP X 0 0 0 [_] [] _
  refine wp_aload_n hX (dk DX11_undo 0 rfl) rfl ?_
  refine w_geti hX flX11_186 (dk DX11_undo 1 rfl) (by decide) rfl ?_
  rw [h]
  refine wp_if_ne (tgt := 10) hX (dk DX11_undo 2 rfl) (by decide) (fun _ => ?_) (fun h_ => absurd h_ (nI_ne0 (by omega) (by omega)))
  refine wp_aload_n hX (dk DX11_undo 5 rfl) rfl ?_
  refine wp_dup hX (dk DX11_undo 6 rfl) rfl ?_
  refine w_geti hX flX11_186 (dk DX11_undo 7 rfl) (by decide) rfl ?_
  rw [h]
  refine wp_iconst (v := 1) hX (dk DX11_undo 8 rfl) (by decide) ?_
  refine wp_isub hX (dk DX11_undo 9 rfl) ?_
  rw [nI_pred]
  refine w_puti hX fpX11_186 (dk DX11_undo 10 rfl) rfl ?_
  refine wp_aload_n hX (dk DX11_undo 11 rfl) rfl ?_
  refine wp_aload_n hX (dk DX11_undo 12 rfl) rfl ?_
  refine w_getr hX flX11_75 (dk DX11_undo 13 rfl) rfl rfl ?_
  refine wp_iconst (v := 4) hX (dk DX11_undo 14 rfl) (by decide) ?_
  refine wp_aload_n hX (dk DX11_undo 15 rfl) rfl ?_
  refine w_geti hX flX11_186 (dk DX11_undo 16 rfl) (by decide) rfl ?_
  rw [u2_at]
  refine wp_imul hX (dk DX11_undo 17 rfl) ?_
  rw [e0]
  refine w_iald (j := _) hX (dk DX11_undo 18 rfl) rfl rfl (show _ < 160 by omega) ?_
  rw [e103, hi]
  refine wp_aload_n hX (dk DX11_undo 19 rfl) rfl ?_
  refine w_getr hX flX11_75 (dk DX11_undo 20 rfl) rfl rfl ?_
  refine wp_iconst (v := 4) hX (dk DX11_undo 21 rfl) (by decide) ?_
  refine wp_aload_n hX (dk DX11_undo 22 rfl) rfl ?_
  refine w_geti hX flX11_186 (dk DX11_undo 23 rfl) (by decide) rfl ?_
  rw [u2_at]
  refine wp_imul hX (dk DX11_undo 24 rfl) ?_
  refine wp_iconst (v := 1) hX (dk DX11_undo 25 rfl) (by decide) ?_
  refine wp_iadd hX (dk DX11_undo 26 rfl) ?_
  rw [show (4 : Int32) * nI n + 1 = nI (4 * n + 1) from ix4' n 1]
  refine w_iald (j := _) hX (dk DX11_undo 27 rfl) rfl rfl (show _ < 160 by omega) ?_
  rw [e103, hw]
  refine wp_aload_n hX (dk DX11_undo 28 rfl) rfl ?_
  refine w_getr hX flX11_75 (dk DX11_undo 29 rfl) rfl rfl ?_
  refine wp_iconst (v := 4) hX (dk DX11_undo 30 rfl) (by decide) ?_
  refine wp_aload_n hX (dk DX11_undo 31 rfl) rfl ?_
  refine w_geti hX flX11_186 (dk DX11_undo 32 rfl) (by decide) rfl ?_
  rw [u2_at]
  refine wp_imul hX (dk DX11_undo 33 rfl) ?_
  refine wp_iconst (v := 2) hX (dk DX11_undo 34 rfl) (by decide) ?_
  refine wp_iadd hX (dk DX11_undo 35 rfl) ?_
  rw [show (4 : Int32) * nI n + 2 = nI (4 * n + 2) from ix4' n 2]
  refine w_iald (j := _) hX (dk DX11_undo 36 rfl) rfl rfl (show _ < 160 by omega) ?_
  rw [e103]
  refine w_callV (As := [_, _, _]) lkX11_182 hX (dk DX11_undo 37 rfl) rfl rfl (by decide) hN (k_mbec (d + 109) sw _ g i w _ hi10 hw3) ?_
  show WP _ _ _ 61 [_] [] _
  refine wp_aload_n hX (dk DX11_undo 38 rfl) rfl ?_
  refine w_geti hX flX11_186 (dk DX11_undo 39 rfl) (by decide) rfl ?_
  rw [u2_ne _ _ _ (by omega), u2_at]
  exact wp_ireturn hX hR (dk DX11_undo 40 rfl) rfl (Nat.le_refl _) (Nat.le_refl _) (⟨rfl, rfl⟩)
theorem u_redo0 (d : Nat) (sw : Bool) (f : Nat → Nat → Int32) (g : Nat → Nat → Int64) (h : f 81 35 = f 81 34) : CT (d + 110) 0 0 iX11_redo [.ref 81] (S sw f g) (rdM g f (-5)) := by
  refine CT.rdM ?_
  refine CT.of rfl (Nat.le_of_ble_eq_true rfl) (fun X hX hR hN _ => ?_)
  have hX : Good X RX11 cX11_redo (d + 110) 0 0 := hX
  have hN : x_nl X = 1 := hN
  show WP X 0 0 0 [_] [] _
  refine wp_aload_n hX (dk DX11_redo 0 rfl) rfl ?_
  refine w_geti hX flX11_186 (dk DX11_redo 1 rfl) (by decide) rfl ?_
  refine wp_aload_n hX (dk DX11_redo 2 rfl) rfl ?_
  refine w_geti hX flX11_189 (dk DX11_redo 3 rfl) (by decide) rfl ?_
  refine wp_icmp_ne (tgt := 14) hX (dk DX11_redo 4 rfl) (by decide) (fun h_ => absurd (h) h_) (fun _ => ?_)
  refine wp_bipush (v := -5) hX (dk DX11_redo 5 rfl) (by decide) ?_
  exact wp_ireturn hX hR (dk DX11_redo 6 rfl) rfl (Nat.le_refl _) (Nat.le_refl _) (⟨rfl, rfl⟩)
theorem u_redo1 (d : Nat) (sw : Bool) (f : Nat → Nat → Int32) (g : Nat → Nat → Int64) (n m i w : Nat) (hn : n < 40) (h : f 81 35 = nI n) (h2 : f 81 34 = nI (n + (m + 1))) (hm : n + (m + 1) ≤ 40) (hi : f 103 (4 * n) = nI i) (hw : f 103 (4 * n + 1) = nI w) (hi10 : i < 10) (hw3 : w < 3) : CT (d + 110) 0 0 iX11_redo [.ref 81] (S sw f g) (QR (some (.int (nI m))) (S sw (u2 (u2 f (83 + w) i (f 103 (4 * n + 3))) 81 35 (nI (n + 1))) g)) := by
  have e0 : (4 : Int32) * nI n = nI (4 * n) := by rw [show (4 : Int32) = nI 4 from rfl, pk_mul]
  refine CT.of rfl (Nat.le_of_ble_eq_true rfl) (fun X hX hR hN _ => ?_)
  have hX : Good X RX11 cX11_redo (d + 110) 0 0 := hX
  have hN : x_nl X = 1 := hN
  show WP X 0 0 0 [_] [] _
  refine wp_aload_n hX (dk DX11_redo 0 rfl) rfl ?_
  refine w_geti hX flX11_186 (dk DX11_redo 1 rfl) (by decide) rfl ?_
  refine wp_aload_n hX (dk DX11_redo 2 rfl) rfl ?_
  refine w_geti hX flX11_189 (dk DX11_redo 3 rfl) (by decide) rfl ?_
  rw [h, h2]
  refine wp_icmp_ne (tgt := 14) hX (dk DX11_redo 4 rfl) (by decide) (fun _ => ?_) (fun h_ => absurd h_ (fun e => by have := (nI_eq (by omega) (by omega)).mp e; omega))
  refine wp_aload_n hX (dk DX11_redo 7 rfl) rfl ?_
  refine wp_aload_n hX (dk DX11_redo 8 rfl) rfl ?_
  refine w_getr hX flX11_75 (dk DX11_redo 9 rfl) rfl rfl ?_
  refine wp_iconst (v := 4) hX (dk DX11_redo 10 rfl) (by decide) ?_
  refine wp_aload_n hX (dk DX11_redo 11 rfl) rfl ?_
  refine w_geti hX flX11_186 (dk DX11_redo 12 rfl) (by decide) rfl ?_
  rw [h]
  refine wp_imul hX (dk DX11_redo 13 rfl) ?_
  rw [e0]
  refine w_iald (j := _) hX (dk DX11_redo 14 rfl) rfl rfl (show _ < 160 by omega) ?_
  rw [hi]
  refine wp_aload_n hX (dk DX11_redo 15 rfl) rfl ?_
  refine w_getr hX flX11_75 (dk DX11_redo 16 rfl) rfl rfl ?_
  refine wp_iconst (v := 4) hX (dk DX11_redo 17 rfl) (by decide) ?_
  refine wp_aload_n hX (dk DX11_redo 18 rfl) rfl ?_
  refine w_geti hX flX11_186 (dk DX11_redo 19 rfl) (by decide) rfl ?_
  rw [h]
  refine wp_imul hX (dk DX11_redo 20 rfl) ?_
  refine wp_iconst (v := 1) hX (dk DX11_redo 21 rfl) (by decide) ?_
  refine wp_iadd hX (dk DX11_redo 22 rfl) ?_
  rw [show (4 : Int32) * nI n + 1 = nI (4 * n + 1) from ix4' n 1]
  refine w_iald (j := _) hX (dk DX11_redo 23 rfl) rfl rfl (show _ < 160 by omega) ?_
  rw [hw]
  refine wp_aload_n hX (dk DX11_redo 24 rfl) rfl ?_
  refine w_getr hX flX11_75 (dk DX11_redo 25 rfl) rfl rfl ?_
  refine wp_iconst (v := 4) hX (dk DX11_redo 26 rfl) (by decide) ?_
  refine wp_aload_n hX (dk DX11_redo 27 rfl) rfl ?_
  refine w_geti hX flX11_186 (dk DX11_redo 28 rfl) (by decide) rfl ?_
  rw [h]
  refine wp_imul hX (dk DX11_redo 29 rfl) ?_
  refine wp_iconst (v := 3) hX (dk DX11_redo 30 rfl) (by decide) ?_
  refine wp_iadd hX (dk DX11_redo 31 rfl) ?_
  rw [show (4 : Int32) * nI n + 3 = nI (4 * n + 3) from ix4' n 3]
  refine w_iald (j := _) hX (dk DX11_redo 32 rfl) rfl rfl (show _ < 160 by omega) ?_
  refine w_callV (As := [_, _, _]) lkX11_182 hX (dk DX11_redo 33 rfl) rfl rfl (by decide) hN (k_mbec (d + 109) sw f g i w _ hi10 hw3) ?_
  show WP _ _ _ 55 [_] [] _
  refine wp_aload_n hX (dk DX11_redo 34 rfl) rfl ?_
  refine wp_dup hX (dk DX11_redo 35 rfl) rfl ?_
  refine w_geti hX flX11_186 (dk DX11_redo 36 rfl) (by decide) rfl ?_
  rw [show u2 f (83 + w) i (f 103 (4 * n + 3)) 81 35 = nI n by rw [u2_ne _ _ _ (by omega)]; exact h]
  refine wp_iconst (v := 1) hX (dk DX11_redo 37 rfl) (by decide) ?_
  refine wp_iadd hX (dk DX11_redo 38 rfl) ?_
  rw [nI_1]
  refine w_puti hX fpX11_186 (dk DX11_redo 39 rfl) rfl ?_
  refine wp_aload_n hX (dk DX11_redo 40 rfl) rfl ?_
  refine w_geti hX flX11_189 (dk DX11_redo 41 rfl) (by decide) rfl ?_
  refine wp_aload_n hX (dk DX11_redo 42 rfl) rfl ?_
  refine w_geti hX flX11_186 (dk DX11_redo 43 rfl) (by decide) rfl ?_
  rw [u2_at, show u2 (u2 f (83 + w) i (f 103 (4 * n + 3))) 81 35 (nI (n + 1)) 81 34 = nI (n + (m + 1)) by rw [u2_off _ _ _ (by decide), u2_ne _ _ _ (by omega)]; exact h2]
  refine wp_isub hX (dk DX11_redo 44 rfl) ?_
  exact wp_ireturn hX hR (dk DX11_redo 45 rfl) rfl (Nat.le_refl _) (Nat.le_refl _) (⟨by rw [pk_sub (by omega)]; congr 3; omega, rfl⟩)
theorem u_feed0 (d : Nat) (sw : Bool) (f : Nat → Nat → Int32) (g : Nat → Nat → Int64) (x : Int32) (h : ¬ ∃ v, v < 256 ∧ x = nI v) : CT (d + 110) 0 0 iX11_feed [.ref 81, .int x] (S sw f g) (rdM g f (-1)) := by
  refine CT.rdM ?_
  refine CT.of rfl (Nat.le_of_ble_eq_true rfl) (fun X hX hR hN _ => ?_)
  have hX : Good X RX11 cX11_feed (d + 110) 0 0 := hX
  have hN : x_nl X = 2 := hN
  show WP X 0 0 0 [_, _] [] _
  refine wp_iload_n hX (dk DX11_feed 0 rfl) rfl ?_
  refine wp_iconst (v := 0) hX (dk DX11_feed 1 rfl) (by decide) ?_
  refine wp_sipush (v := 255) hX (dk DX11_feed 2 rfl) (by decide) ?_
  refine w_callS (As := [_, _, _]) lkX11_116 hX (dk DX11_feed 3 rfl) rfl (by decide) (k_wi0 (d + 109) 255 x 255 _ rfl (by decide) (fun ⟨v, h1, h2⟩ => h ⟨v, by omega, h2⟩)) ?_
  show WP _ _ _ 8 [_, _] [_] _
  refine wp_if_ne (tgt := 13) hX (dk DX11_feed 4 rfl) (by decide) (fun h_ => absurd (rfl) h_) (fun _ => ?_)
  refine wp_iconst (v := -1) hX (dk DX11_feed 5 rfl) (by decide) ?_
  exact wp_ireturn hX hR (dk DX11_feed 6 rfl) rfl (Nat.le_refl _) (Nat.le_refl _) (⟨rfl, rfl⟩)
theorem u_feedF (d : Nat) (sw : Bool) (f : Nat → Nat → Int32) (g : Nat → Nat → Int64) (v : Nat) (hv : v < 256) (h : f 81 9 = nI 120) : CT (d + 110) 0 0 iX11_feed [.ref 81, .int (nI v)] (S sw f g) (rdM g f (-3)) := by
  refine CT.rdM ?_
  refine CT.of rfl (Nat.le_of_ble_eq_true rfl) (fun X hX hR hN _ => ?_)
  have hX : Good X RX11 cX11_feed (d + 110) 0 0 := hX
  have hN : x_nl X = 2 := hN
  show WP X 0 0 0 [_, _] [] _
  refine wp_iload_n hX (dk DX11_feed 0 rfl) rfl ?_
  refine wp_iconst (v := 0) hX (dk DX11_feed 1 rfl) (by decide) ?_
  refine wp_sipush (v := 255) hX (dk DX11_feed 2 rfl) (by decide) ?_
  refine w_callS (As := [_, _, _]) lkX11_116 hX (dk DX11_feed 3 rfl) rfl (by decide) (k_wi1 (d + 109) v 255 255 _ rfl (by decide) (by omega)) ?_
  show WP _ _ _ 8 [_, _] [_] _
  refine wp_if_ne (tgt := 13) hX (dk DX11_feed 4 rfl) (by decide) (fun _ => ?_) (fun h_ => absurd h_ (by decide))
  refine wp_aload_n hX (dk DX11_feed 7 rfl) rfl ?_
  refine w_geti hX flX11_195 (dk DX11_feed 8 rfl) (by decide) rfl ?_
  refine wp_bipush (v := 120) hX (dk DX11_feed 9 rfl) (by decide) ?_
  rw [h]
  refine wp_icmp_ne (tgt := 25) hX (dk DX11_feed 10 rfl) (by decide) (fun h_ => absurd (rfl) h_) (fun _ => ?_)
  refine wp_bipush (v := -3) hX (dk DX11_feed 11 rfl) (by decide) ?_
  exact wp_ireturn hX hR (dk DX11_feed 12 rfl) rfl (Nat.le_refl _) (Nat.le_refl _) (⟨rfl, rfl⟩)
theorem u_feed1 (d : Nat) (sw : Bool) (f : Nat → Nat → Int32) (g : Nat → Nat → Int64) (v n : Nat) (hv : v < 256) (hn : n < 120) (h : f 81 9 = nI n) : CT (d + 110) 0 0 iX11_feed [.ref 81, .int (nI v)] (S sw f g) (QR (some (.int (nI (n + 1)))) (S sw (u2 (u2 f 81 9 (nI (n + 1))) 88 n (nI v)) g)) := by
  refine CT.of rfl (Nat.le_of_ble_eq_true rfl) (fun X hX hR hN _ => ?_)
  have hX : Good X RX11 cX11_feed (d + 110) 0 0 := hX
  have hN : x_nl X = 2 := hN
  show WP X 0 0 0 [_, _] [] _
  refine wp_iload_n hX (dk DX11_feed 0 rfl) rfl ?_
  refine wp_iconst (v := 0) hX (dk DX11_feed 1 rfl) (by decide) ?_
  refine wp_sipush (v := 255) hX (dk DX11_feed 2 rfl) (by decide) ?_
  refine w_callS (As := [_, _, _]) lkX11_116 hX (dk DX11_feed 3 rfl) rfl (by decide) (k_wi1 (d + 109) v 255 255 _ rfl (by decide) (by omega)) ?_
  show WP _ _ _ 8 [_, _] [_] _
  refine wp_if_ne (tgt := 13) hX (dk DX11_feed 4 rfl) (by decide) (fun _ => ?_) (fun h_ => absurd h_ (by decide))
  refine wp_aload_n hX (dk DX11_feed 7 rfl) rfl ?_
  refine w_geti hX flX11_195 (dk DX11_feed 8 rfl) (by decide) rfl ?_
  refine wp_bipush (v := 120) hX (dk DX11_feed 9 rfl) (by decide) ?_
  rw [h]
  refine wp_icmp_ne (tgt := 25) hX (dk DX11_feed 10 rfl) (by decide) (fun _ => ?_) (fun h_ => absurd h_ (fun e => by have := (nI_eq (b := 120) (by omega) (by decide)).mp e; omega))
  refine wp_aload_n hX (dk DX11_feed 13 rfl) rfl ?_
  refine w_getr hX flX11_30 (dk DX11_feed 14 rfl) rfl rfl ?_
  refine wp_aload_n hX (dk DX11_feed 15 rfl) rfl ?_
  refine wp_dup hX (dk DX11_feed 16 rfl) rfl ?_
  refine w_geti hX flX11_195 (dk DX11_feed 17 rfl) (by decide) rfl ?_
  rw [h]
  refine wp_dup_x1 hX (dk DX11_feed 18 rfl) rfl rfl ?_
  refine wp_iconst (v := 1) hX (dk DX11_feed 19 rfl) (by decide) ?_
  refine wp_iadd hX (dk DX11_feed 20 rfl) ?_
  rw [nI_1]
  refine w_puti hX fpX11_195 (dk DX11_feed 21 rfl) rfl ?_
  refine wp_iload_n hX (dk DX11_feed 22 rfl) rfl ?_
  refine w_iast (j := _) hX (dk DX11_feed 23 rfl) rfl rfl (show _ < 120 by omega) ?_
  refine wp_aload_n hX (dk DX11_feed 24 rfl) rfl ?_
  refine w_geti hX flX11_195 (dk DX11_feed 25 rfl) (by decide) rfl ?_
  rw [u2_ne _ _ _ (by decide), u2_at]
  exact wp_ireturn hX hR (dk DX11_feed 26 rfl) rfl (Nat.le_refl _) (Nat.le_refl _) (⟨rfl, rfl⟩)
theorem u_size0 (d : Nat) (sw : Bool) (f : Nat → Nat → Int32) (g : Nat → Nat → Int64) (n : Nat) (x y : Int32) (hn : f 81 0 = nI n) (hn10 : n ≤ 10) (h : ¬ ((∃ i, i < n ∧ x = nI i) ∧ ∃ w, w < 3 ∧ y = nI w)) : CT (d + 110) 0 0 iX11_size [.ref 81, .int x, .int y] (S sw f g) (rdM g f (-1)) := by
  refine CT.rdM ?_
  refine CT.of rfl (Nat.le_of_ble_eq_true rfl) (fun X hX hR hN _ => ?_)
  have hX : Good X RX11 cX11_size (d + 110) 0 0 := hX
  have hN : x_nl X = 6 := hN
  show WP X 0 0 0 [_, _, _, _, _, _] [] _
  by_cases c1 : ∃ i, i < n ∧ x = nI i
  · obtain ⟨i, hi, rfl⟩ := c1
    refine wp_aload_n hX (dk DX11_size 0 rfl) rfl ?_
    refine wp_iload_n hX (dk DX11_size 1 rfl) rfl ?_
    refine w_callV (As := [_]) lkX11_127 hX (dk DX11_size 2 rfl) rfl rfl (by decide) hN (k_mF1 (d + 108) sw f g n i hn hn10 hi) ?_
    show WP _ _ _ 5 [_, _, _, _, _, _] [_] _
    refine wp_if_eq (tgt := 17) hX (dk DX11_size 3 rfl) (by decide) (fun h_ => absurd h_ (by decide)) (fun _ => ?_)
    refine wp_iload_n hX (dk DX11_size 4 rfl) rfl ?_
    refine wp_iconst (v := 0) hX (dk DX11_size 5 rfl) (by decide) ?_
    refine wp_iconst (v := 2) hX (dk DX11_size 6 rfl) (by decide) ?_
    refine w_callS (As := [_, _, _]) lkX11_116 hX (dk DX11_size 7 rfl) rfl (by decide) (k_wi0 (d + 109) 2 y 2 _ rfl (by decide) (fun ⟨w, h1, h2⟩ => h ⟨⟨i, hi, rfl⟩, w, by omega, h2⟩)) ?_
    show WP _ _ _ 14 [_, _, _, _, _, _] [_] _
    refine wp_if_ne (tgt := 19) hX (dk DX11_size 8 rfl) (by decide) (fun h_ => absurd (rfl) h_) (fun _ => ?_)
    refine wp_iconst (v := -1) hX (dk DX11_size 9 rfl) (by decide) ?_
    exact wp_ireturn hX hR (dk DX11_size 10 rfl) rfl (Nat.le_refl _) (Nat.le_refl _) (⟨rfl, rfl⟩)
  · refine wp_aload_n hX (dk DX11_size 0 rfl) rfl ?_
    refine wp_iload_n hX (dk DX11_size 1 rfl) rfl ?_
    refine w_callV (As := [_]) lkX11_127 hX (dk DX11_size 2 rfl) rfl rfl (by decide) hN (k_mF0 (d + 108) sw f g n x hn hn10 c1) ?_
    show WP _ _ _ 5 [_, _, _, _, _, _] [_] _
    refine wp_if_eq (tgt := 17) hX (dk DX11_size 3 rfl) (by decide) (fun _ => ?_) (fun h_ => absurd (rfl) h_)
    refine wp_iconst (v := -1) hX (dk DX11_size 9 rfl) (by decide) ?_
    exact wp_ireturn hX hR (dk DX11_size 10 rfl) rfl (Nat.le_refl _) (Nat.le_refl _) (⟨rfl, rfl⟩)
theorem jwide_up (s : Int32) : ∀ k, jwide s (k + 1) = if s &&& ((1082401 : Int32) <<< (nI (k + 1) &&& 31)) = 0 then jwide s k else nI (k + 1) + 1 := fun k => rfl
theorem jtall_up (s : Int32) : ∀ k, jtall s (k + 1) = if s &&& ((31 : Int32) <<< (5 * nI (k + 1) &&& 31)) = 0 then jtall s k else nI (k + 1) + 1 := fun k => rfl
theorem u_size1 (d : Nat) (sw : Bool) (f : Nat → Nat → Int32) (g : Nat → Nat → Int64) (n i w : Nat) (sh : Nat → Int32) (h : mFg f n sh) (hi : i < n) (hw : w < 3) : CT (d + 110) 0 0 iX11_size [.ref 81, .int (nI i), .int (nI w)] (S sw f g) (rdM g f (if w = 0 then jpc (sh i) else if w = 1 then jwide (jturn (sh i) 0) 4 else jtall (jturn (sh i) 0) 4)) := by
  obtain ⟨hn, hn10, hsh⟩ := h
  obtain ⟨e82, hsp⟩ := hsh i hi
  obtain ⟨hS, hN0⟩ := shp_Sq hsp
  obtain ⟨⟨x0, hx0, cx⟩, y0, hy0, cy⟩ := jturn_Cn hS hN0 0
  obtain ⟨s, hs⟩ : ∃ s, s = jturn (sh i) 0 := ⟨_, rfl⟩
  have hw3 : w = 0 ∨ w = 1 ∨ w = 2 := by omega
  refine CT.rdM ?_
  rw [← hs] at cx cy ⊢
  have pre : ∀ X : cxT, Good X RX11 cX11_size (d + 110) 0 0 → x_nl X = 6 → WP X 0 0 19 [some (.ref 81), some (.int (nI i)), some (.int (nI w)), none, none, none] [] (S sw f g) → WP X 0 0 0 [some (.ref 81), some (.int (nI i)), some (.int (nI w)), none, none, none] [] (S sw f g) := by
    intro X hX hN k
    refine wp_aload_n hX (dk DX11_size 0 rfl) rfl ?_
    refine wp_iload_n hX (dk DX11_size 1 rfl) rfl ?_
    refine w_callV (As := [_]) lkX11_127 hX (dk DX11_size 2 rfl) rfl rfl (by decide) hN (k_mF1 (d + 108) sw f g n i hn hn10 hi) ?_
    show WP _ _ _ 5 [_, _, _, _, _, _] [_] _
    refine wp_if_eq (tgt := 17) hX (dk DX11_size 3 rfl) (by decide) (fun h_ => absurd h_ (by decide)) (fun _ => ?_)
    refine wp_iload_n hX (dk DX11_size 4 rfl) rfl ?_
    refine wp_iconst (v := 0) hX (dk DX11_size 5 rfl) (by decide) ?_
    refine wp_iconst (v := 2) hX (dk DX11_size 6 rfl) (by decide) ?_
    refine w_callS (As := [_, _, _]) lkX11_116 hX (dk DX11_size 7 rfl) rfl (by decide) (k_wi1 (d + 109) w 2 2 _ rfl (by decide) (by omega)) ?_
    show WP _ _ _ 14 [_, _, _, _, _, _] [_] _
    refine wp_if_ne (tgt := 19) hX (dk DX11_size 8 rfl) (by decide) (fun _ => ?_) (fun h_ => absurd h_ (by decide))
    exact k
  rcases hw3 with rfl | rfl | rfl
  · refine CT.of rfl (Nat.le_of_ble_eq_true rfl) (fun X hX hR hN _ => ?_)
    have hX : Good X RX11 cX11_size (d + 110) 0 0 := hX
    have hN : x_nl X = 6 := hN
    show WP X 0 0 0 [_, _, _, _, _, _] [] _
    refine pre X hX hN ?_
    refine wp_iload_n hX (dk DX11_size 11 rfl) rfl ?_
    refine wp_if_ne (tgt := 33) hX (dk DX11_size 12 rfl) (by decide) (fun h_ => absurd (rfl) h_) (fun _ => ?_)
    refine wp_aload_n hX (dk DX11_size 13 rfl) rfl ?_
    refine w_getr hX flX11_9 (dk DX11_size 14 rfl) rfl rfl ?_
    refine wp_iload_n hX (dk DX11_size 15 rfl) rfl ?_
    refine w_iald (j := _) hX (dk DX11_size 16 rfl) rfl rfl (show _ < 10 by omega) ?_
    rw [e82]
    refine w_callS (As := [_]) lkX11_156 hX (dk DX11_size 17 rfl) rfl (by decide) (k_mcells (d + 108) sw f g _) ?_
    show WP _ _ _ 32 [_, _, _, _, _, _] [_] _
    exact wp_ireturn hX hR (dk DX11_size 18 rfl) rfl (Nat.le_refl _) (Nat.le_refl _) (⟨rfl, rfl⟩)
  · refine CT.of rfl (Nat.le_of_ble_eq_true rfl) (fun X hX hR hN _ => ?_)
    have hX : Good X RX11 cX11_size (d + 110) 0 0 := hX
    have hN : x_nl X = 6 := hN
    show WP X 0 0 0 [_, _, _, _, _, _] [] _
    refine pre X hX hN ?_
    have lo : ∀ (m k : Nat), k + m = 4 → WP X 0 0 49 [some (.ref 81), some (.int (nI i)), some (.int (nI 1)), some (.int s), some (.int (jwide s k)), some (.int (nI (k + 1)))] [] (S sw f g) := by
      intro m
      induction m with
      | zero =>
        intro k hk
        obtain rfl : k = 4 := by omega
        refine wp_iload hX (dk DX11_size 29 rfl) rfl ?_
        refine wp_iconst (v := 5) hX (dk DX11_size 30 rfl) (by decide) ?_
        refine wp_icmp_ge (tgt := 92) hX (dk DX11_size 31 rfl) (by decide) (fun _ => ?_) (fun h_ => absurd (by decide) h_)
        refine wp_iload hX (dk DX11_size 53 rfl) rfl ?_
        exact wp_ireturn hX hR (dk DX11_size 54 rfl) rfl (Nat.le_refl _) (Nat.le_refl _) (⟨rfl, rfl⟩)
      | succ m ih =>
        intro k hk
        refine wp_iload hX (dk DX11_size 29 rfl) rfl ?_
        refine wp_iconst (v := 5) hX (dk DX11_size 30 rfl) (by decide) ?_
        refine wp_icmp_ge (tgt := 92) hX (dk DX11_size 31 rfl) (by decide) (fun h_ => absurd h_ (nI_ge (b := 5) (by omega) (by omega))) (fun _ => ?_)
        refine wp_iload_n hX (dk DX11_size 32 rfl) rfl ?_
        refine wp_iload_n hX (dk DX11_size 33 rfl) rfl ?_
        refine wp_iconst (v := 1) hX (dk DX11_size 34 rfl) (by decide) ?_
        refine wp_icmp_ne (tgt := 69) hX (dk DX11_size 35 rfl) (by decide) (fun h_ => absurd (rfl) h_) (fun _ => ?_)
        refine wp_ldc hX (dk DX11_size 36 rfl) kcX11_137 ?_
        refine wp_iload hX (dk DX11_size 37 rfl) rfl ?_
        refine wp_ishl hX (dk DX11_size 38 rfl) ?_
        refine wp_goto (tgt := 76) hX (dk DX11_size 39 rfl) (by decide) ?_
        refine wp_iand hX (dk DX11_size 45 rfl) ?_
        refine wp_if_eq (tgt := 86) hX (dk DX11_size 46 rfl) (by decide) (fun h77 => ?_) (fun h77 => ?_)
        · refine wp_iinc hX (dk DX11_size 51 rfl) rfl (nI_inc _) rfl hN ?_
          show WP _ _ _ 89 [_, _, _, _, _, _] [] _
          refine wp_goto (tgt := 49) hX (dk DX11_size 52 rfl) (by decide) ?_
          have := ih (k + 1) (by omega)
          rw [jwide_up] at this
          by_cases c : s &&& ((1082401 : Int32) <<< (nI (k + 1) &&& 31)) = 0
          · rw [if_pos c] at this; first | exact this | exact absurd c h77
          · rw [if_neg c] at this; first | exact this | exact absurd h77 c
        · refine wp_iload hX (dk DX11_size 47 rfl) rfl ?_
          refine wp_iconst (v := 1) hX (dk DX11_size 48 rfl) (by decide) ?_
          refine wp_iadd hX (dk DX11_size 49 rfl) ?_
          refine wp_istore hX (dk DX11_size 50 rfl) rfl hN (Nat.le_of_ble_eq_true rfl) ?_
          show WP _ _ _ 86 [_, _, _, _, _, _] [] _
          refine wp_iinc hX (dk DX11_size 51 rfl) rfl (nI_inc _) rfl hN ?_
          show WP _ _ _ 89 [_, _, _, _, _, _] [] _
          refine wp_goto (tgt := 49) hX (dk DX11_size 52 rfl) (by decide) ?_
          have := ih (k + 1) (by omega)
          rw [jwide_up] at this
          by_cases c : s &&& ((1082401 : Int32) <<< (nI (k + 1) &&& 31)) = 0
          · rw [if_pos c] at this; first | exact this | exact absurd c h77
          · rw [if_neg c] at this; first | exact this | exact absurd h77 c
    have c0 : ¬ s &&& ((1082401 : Int32) <<< (nI 0 &&& 31)) = 0 := fun e => by
      have := col_sh (k := 0) (by decide) |>.mp e y0 hy0
      rw [cy] at this; cases this
    refine wp_iload_n hX (dk DX11_size 11 rfl) rfl ?_
    refine wp_if_ne (tgt := 33) hX (dk DX11_size 12 rfl) (by decide) (fun _ => ?_) (fun h_ => absurd h_ (by decide))
    refine wp_aload_n hX (dk DX11_size 19 rfl) rfl ?_
    refine w_getr hX flX11_9 (dk DX11_size 20 rfl) rfl rfl ?_
    refine wp_iload_n hX (dk DX11_size 21 rfl) rfl ?_
    refine w_iald (j := _) hX (dk DX11_size 22 rfl) rfl rfl (show _ < 10 by omega) ?_
    rw [e82]
    refine w_callS (As := [_]) lkX11_145 hX (dk DX11_size 23 rfl) rfl (by decide) (k_pushed (d + 109) sw f g _ hS hN0) ?_
    show WP _ _ _ 42 [_, _, _, _, _, _] [_] _
    rw [show jcor (sh i) = s from hs.symm]
    refine wp_istore_n hX (dk DX11_size 24 rfl) rfl rfl hN (Nat.le_of_ble_eq_true rfl) ?_
    show WP _ _ _ 43 [_, _, _, _, _, _] [] _
    refine wp_iconst (v := 0) hX (dk DX11_size 25 rfl) (by decide) ?_
    refine wp_istore hX (dk DX11_size 26 rfl) rfl hN (Nat.le_of_ble_eq_true rfl) ?_
    show WP _ _ _ 46 [_, _, _, _, _, _] [] _
    refine wp_iconst (v := 0) hX (dk DX11_size 27 rfl) (by decide) ?_
    refine wp_istore hX (dk DX11_size 28 rfl) rfl hN (Nat.le_of_ble_eq_true rfl) ?_
    show WP _ _ _ 49 [_, _, _, _, _, _] [] _
    refine wp_iload hX (dk DX11_size 29 rfl) rfl ?_
    refine wp_iconst (v := 5) hX (dk DX11_size 30 rfl) (by decide) ?_
    refine wp_icmp_ge (tgt := 92) hX (dk DX11_size 31 rfl) (by decide) (fun h_ => absurd h_ (nI_ge (a := 0) (b := 5) (by decide) (by decide))) (fun _ => ?_)
    refine wp_iload_n hX (dk DX11_size 32 rfl) rfl ?_
    refine wp_iload_n hX (dk DX11_size 33 rfl) rfl ?_
    refine wp_iconst (v := 1) hX (dk DX11_size 34 rfl) (by decide) ?_
    refine wp_icmp_ne (tgt := 69) hX (dk DX11_size 35 rfl) (by decide) (fun h_ => absurd (rfl) h_) (fun _ => ?_)
    refine wp_ldc hX (dk DX11_size 36 rfl) kcX11_137 ?_
    refine wp_iload hX (dk DX11_size 37 rfl) rfl ?_
    refine wp_ishl hX (dk DX11_size 38 rfl) ?_
    refine wp_goto (tgt := 76) hX (dk DX11_size 39 rfl) (by decide) ?_
    refine wp_iand hX (dk DX11_size 45 rfl) ?_
    refine wp_if_eq (tgt := 86) hX (dk DX11_size 46 rfl) (by decide) (fun h_ => absurd h_ (c0)) (fun _ => ?_)
    refine wp_iload hX (dk DX11_size 47 rfl) rfl ?_
    refine wp_iconst (v := 1) hX (dk DX11_size 48 rfl) (by decide) ?_
    refine wp_iadd hX (dk DX11_size 49 rfl) ?_
    refine wp_istore hX (dk DX11_size 50 rfl) rfl hN (Nat.le_of_ble_eq_true rfl) ?_
    show WP _ _ _ 86 [_, _, _, _, _, _] [] _
    refine wp_iinc hX (dk DX11_size 51 rfl) rfl (nI_inc _) rfl hN ?_
    show WP _ _ _ 89 [_, _, _, _, _, _] [] _
    refine wp_goto (tgt := 49) hX (dk DX11_size 52 rfl) (by decide) ?_
    exact lo 4 0 (by omega)
  · refine CT.of rfl (Nat.le_of_ble_eq_true rfl) (fun X hX hR hN _ => ?_)
    have hX : Good X RX11 cX11_size (d + 110) 0 0 := hX
    have hN : x_nl X = 6 := hN
    show WP X 0 0 0 [_, _, _, _, _, _] [] _
    refine pre X hX hN ?_
    have lo : ∀ (m k : Nat), k + m = 4 → WP X 0 0 49 [some (.ref 81), some (.int (nI i)), some (.int (nI 2)), some (.int s), some (.int (jtall s k)), some (.int (nI (k + 1)))] [] (S sw f g) := by
      intro m
      induction m with
      | zero =>
        intro k hk
        obtain rfl : k = 4 := by omega
        refine wp_iload hX (dk DX11_size 29 rfl) rfl ?_
        refine wp_iconst (v := 5) hX (dk DX11_size 30 rfl) (by decide) ?_
        refine wp_icmp_ge (tgt := 92) hX (dk DX11_size 31 rfl) (by decide) (fun _ => ?_) (fun h_ => absurd (by decide) h_)
        refine wp_iload hX (dk DX11_size 53 rfl) rfl ?_
        exact wp_ireturn hX hR (dk DX11_size 54 rfl) rfl (Nat.le_refl _) (Nat.le_refl _) (⟨rfl, rfl⟩)
      | succ m ih =>
        intro k hk
        refine wp_iload hX (dk DX11_size 29 rfl) rfl ?_
        refine wp_iconst (v := 5) hX (dk DX11_size 30 rfl) (by decide) ?_
        refine wp_icmp_ge (tgt := 92) hX (dk DX11_size 31 rfl) (by decide) (fun h_ => absurd h_ (nI_ge (b := 5) (by omega) (by omega))) (fun _ => ?_)
        refine wp_iload_n hX (dk DX11_size 32 rfl) rfl ?_
        refine wp_iload_n hX (dk DX11_size 33 rfl) rfl ?_
        refine wp_iconst (v := 1) hX (dk DX11_size 34 rfl) (by decide) ?_
        refine wp_icmp_ne (tgt := 69) hX (dk DX11_size 35 rfl) (by decide) (fun _ => ?_) (fun h_ => absurd h_ (by decide))
        refine wp_bipush (v := 31) hX (dk DX11_size 40 rfl) (by decide) ?_
        refine wp_iconst (v := 5) hX (dk DX11_size 41 rfl) (by decide) ?_
        refine wp_iload hX (dk DX11_size 42 rfl) rfl ?_
        refine wp_imul hX (dk DX11_size 43 rfl) ?_
        refine wp_ishl hX (dk DX11_size 44 rfl) ?_
        refine wp_iand hX (dk DX11_size 45 rfl) ?_
        refine wp_if_eq (tgt := 86) hX (dk DX11_size 46 rfl) (by decide) (fun h77 => ?_) (fun h77 => ?_)
        · refine wp_iinc hX (dk DX11_size 51 rfl) rfl (nI_inc _) rfl hN ?_
          show WP _ _ _ 89 [_, _, _, _, _, _] [] _
          refine wp_goto (tgt := 49) hX (dk DX11_size 52 rfl) (by decide) ?_
          have := ih (k + 1) (by omega)
          rw [jtall_up] at this
          by_cases c : s &&& ((31 : Int32) <<< (5 * nI (k + 1) &&& 31)) = 0
          · rw [if_pos c] at this; first | exact this | exact absurd c h77
          · rw [if_neg c] at this; first | exact this | exact absurd h77 c
        · refine wp_iload hX (dk DX11_size 47 rfl) rfl ?_
          refine wp_iconst (v := 1) hX (dk DX11_size 48 rfl) (by decide) ?_
          refine wp_iadd hX (dk DX11_size 49 rfl) ?_
          refine wp_istore hX (dk DX11_size 50 rfl) rfl hN (Nat.le_of_ble_eq_true rfl) ?_
          show WP _ _ _ 86 [_, _, _, _, _, _] [] _
          refine wp_iinc hX (dk DX11_size 51 rfl) rfl (nI_inc _) rfl hN ?_
          show WP _ _ _ 89 [_, _, _, _, _, _] [] _
          refine wp_goto (tgt := 49) hX (dk DX11_size 52 rfl) (by decide) ?_
          have := ih (k + 1) (by omega)
          rw [jtall_up] at this
          by_cases c : s &&& ((31 : Int32) <<< (5 * nI (k + 1) &&& 31)) = 0
          · rw [if_pos c] at this; first | exact this | exact absurd c h77
          · rw [if_neg c] at this; first | exact this | exact absurd h77 c
    have c0 : ¬ s &&& ((31 : Int32) <<< (5 * nI 0 &&& 31)) = 0 := fun e => by
      have := row_sh (k := 0) (by decide) |>.mp e x0 hx0
      rw [cx] at this; cases this
    refine wp_iload_n hX (dk DX11_size 11 rfl) rfl ?_
    refine wp_if_ne (tgt := 33) hX (dk DX11_size 12 rfl) (by decide) (fun _ => ?_) (fun h_ => absurd h_ (by decide))
    refine wp_aload_n hX (dk DX11_size 19 rfl) rfl ?_
    refine w_getr hX flX11_9 (dk DX11_size 20 rfl) rfl rfl ?_
    refine wp_iload_n hX (dk DX11_size 21 rfl) rfl ?_
    refine w_iald (j := _) hX (dk DX11_size 22 rfl) rfl rfl (show _ < 10 by omega) ?_
    rw [e82]
    refine w_callS (As := [_]) lkX11_145 hX (dk DX11_size 23 rfl) rfl (by decide) (k_pushed (d + 109) sw f g _ hS hN0) ?_
    show WP _ _ _ 42 [_, _, _, _, _, _] [_] _
    rw [show jcor (sh i) = s from hs.symm]
    refine wp_istore_n hX (dk DX11_size 24 rfl) rfl rfl hN (Nat.le_of_ble_eq_true rfl) ?_
    show WP _ _ _ 43 [_, _, _, _, _, _] [] _
    refine wp_iconst (v := 0) hX (dk DX11_size 25 rfl) (by decide) ?_
    refine wp_istore hX (dk DX11_size 26 rfl) rfl hN (Nat.le_of_ble_eq_true rfl) ?_
    show WP _ _ _ 46 [_, _, _, _, _, _] [] _
    refine wp_iconst (v := 0) hX (dk DX11_size 27 rfl) (by decide) ?_
    refine wp_istore hX (dk DX11_size 28 rfl) rfl hN (Nat.le_of_ble_eq_true rfl) ?_
    show WP _ _ _ 49 [_, _, _, _, _, _] [] _
    refine wp_iload hX (dk DX11_size 29 rfl) rfl ?_
    refine wp_iconst (v := 5) hX (dk DX11_size 30 rfl) (by decide) ?_
    refine wp_icmp_ge (tgt := 92) hX (dk DX11_size 31 rfl) (by decide) (fun h_ => absurd h_ (nI_ge (a := 0) (b := 5) (by decide) (by decide))) (fun _ => ?_)
    refine wp_iload_n hX (dk DX11_size 32 rfl) rfl ?_
    refine wp_iload_n hX (dk DX11_size 33 rfl) rfl ?_
    refine wp_iconst (v := 1) hX (dk DX11_size 34 rfl) (by decide) ?_
    refine wp_icmp_ne (tgt := 69) hX (dk DX11_size 35 rfl) (by decide) (fun _ => ?_) (fun h_ => absurd h_ (by decide))
    refine wp_bipush (v := 31) hX (dk DX11_size 40 rfl) (by decide) ?_
    refine wp_iconst (v := 5) hX (dk DX11_size 41 rfl) (by decide) ?_
    refine wp_iload hX (dk DX11_size 42 rfl) rfl ?_
    refine wp_imul hX (dk DX11_size 43 rfl) ?_
    refine wp_ishl hX (dk DX11_size 44 rfl) ?_
    refine wp_iand hX (dk DX11_size 45 rfl) ?_
    refine wp_if_eq (tgt := 86) hX (dk DX11_size 46 rfl) (by decide) (fun h_ => absurd h_ (c0)) (fun _ => ?_)
    refine wp_iload hX (dk DX11_size 47 rfl) rfl ?_
    refine wp_iconst (v := 1) hX (dk DX11_size 48 rfl) (by decide) ?_
    refine wp_iadd hX (dk DX11_size 49 rfl) ?_
    refine wp_istore hX (dk DX11_size 50 rfl) rfl hN (Nat.le_of_ble_eq_true rfl) ?_
    show WP _ _ _ 86 [_, _, _, _, _, _] [] _
    refine wp_iinc hX (dk DX11_size 51 rfl) rfl (nI_inc _) rfl hN ?_
    show WP _ _ _ 89 [_, _, _, _, _, _] [] _
    refine wp_goto (tgt := 49) hX (dk DX11_size 52 rfl) (by decide) ?_
    exact lo 4 0 (by omega)
theorem u_turned0 (d : Nat) (sw : Bool) (f : Nat → Nat → Int32) (g : Nat → Nat → Int64) (n : Nat) (x y : Int32) (hn : f 81 0 = nI n) (hn10 : n ≤ 10) (h : ¬ ((∃ i, i < n ∧ x = nI i) ∧ ∃ w, w < 4 ∧ y = nI w)) : CT (d + 110) 0 0 iX11_turned [.ref 81, .int x, .int y] (S sw f g) (rdM g f (-1)) := by
  refine CT.rdM ?_
  refine CT.of rfl (Nat.le_of_ble_eq_true rfl) (fun X hX hR hN _ => ?_)
  have hX : Good X RX11 cX11_turned (d + 110) 0 0 := hX
  have hN : x_nl X = 3 := hN
  show WP X 0 0 0 [_, _, _] [] _
  by_cases c1 : ∃ i, i < n ∧ x = nI i
  · obtain ⟨i, hi, rfl⟩ := c1
    refine wp_aload_n hX (dk DX11_turned 0 rfl) rfl ?_
    refine wp_iload_n hX (dk DX11_turned 1 rfl) rfl ?_
    refine w_callV (As := [_]) lkX11_127 hX (dk DX11_turned 2 rfl) rfl rfl (by decide) hN (k_mF1 (d + 108) sw f g n i hn hn10 hi) ?_
    show WP _ _ _ 5 [_, _, _] [_] _
    refine wp_if_eq (tgt := 30) hX (dk DX11_turned 3 rfl) (by decide) (fun h_ => absurd h_ (by decide)) (fun _ => ?_)
    refine wp_iload_n hX (dk DX11_turned 4 rfl) rfl ?_
    refine wp_iconst (v := 0) hX (dk DX11_turned 5 rfl) (by decide) ?_
    refine wp_iconst (v := 3) hX (dk DX11_turned 6 rfl) (by decide) ?_
    refine w_callS (As := [_, _, _]) lkX11_116 hX (dk DX11_turned 7 rfl) rfl (by decide) (k_wi0 (d + 109) 3 y 3 _ rfl (by decide) (fun ⟨w, h1, h2⟩ => h ⟨⟨i, hi, rfl⟩, w, by omega, h2⟩)) ?_
    show WP _ _ _ 14 [_, _, _] [_] _
    refine wp_if_eq (tgt := 30) hX (dk DX11_turned 8 rfl) (by decide) (fun _ => ?_) (fun h_ => absurd (rfl) h_)
    refine wp_iconst (v := -1) hX (dk DX11_turned 16 rfl) (by decide) ?_
    exact wp_ireturn hX hR (dk DX11_turned 17 rfl) rfl (Nat.le_refl _) (Nat.le_refl _) (⟨rfl, rfl⟩)
  · refine wp_aload_n hX (dk DX11_turned 0 rfl) rfl ?_
    refine wp_iload_n hX (dk DX11_turned 1 rfl) rfl ?_
    refine w_callV (As := [_]) lkX11_127 hX (dk DX11_turned 2 rfl) rfl rfl (by decide) hN (k_mF0 (d + 108) sw f g n x hn hn10 c1) ?_
    show WP _ _ _ 5 [_, _, _] [_] _
    refine wp_if_eq (tgt := 30) hX (dk DX11_turned 3 rfl) (by decide) (fun _ => ?_) (fun h_ => absurd (rfl) h_)
    refine wp_iconst (v := -1) hX (dk DX11_turned 16 rfl) (by decide) ?_
    exact wp_ireturn hX hR (dk DX11_turned 17 rfl) rfl (Nat.le_refl _) (Nat.le_refl _) (⟨rfl, rfl⟩)
theorem u_turned1 (d : Nat) (sw : Bool) (f : Nat → Nat → Int32) (g : Nat → Nat → Int64) (n i w : Nat) (sh : Nat → Int32) (h : mFg f n sh) (hi : i < n) (hw : w < 4) : CT (d + 110) 0 0 iX11_turned [.ref 81, .int (nI i), .int (nI w)] (S sw f g) (rdM g f (jturn (sh i) w)) := by
  obtain ⟨hn, hn10, hsh⟩ := h
  obtain ⟨e82, hsp⟩ := hsh i hi
  obtain ⟨hS, hN0⟩ := shp_Sq hsp
  refine CT.rdM ?_
  refine CT.of rfl (Nat.le_of_ble_eq_true rfl) (fun X hX hR hN _ => ?_)
  have hX : Good X RX11 cX11_turned (d + 110) 0 0 := hX
  have hN : x_nl X = 3 := hN
  show WP X 0 0 0 [_, _, _] [] _
  refine wp_aload_n hX (dk DX11_turned 0 rfl) rfl ?_
  refine wp_iload_n hX (dk DX11_turned 1 rfl) rfl ?_
  refine w_callV (As := [_]) lkX11_127 hX (dk DX11_turned 2 rfl) rfl rfl (by decide) hN (k_mF1 (d + 108) sw f g n i hn hn10 hi) ?_
  show WP _ _ _ 5 [_, _, _] [_] _
  refine wp_if_eq (tgt := 30) hX (dk DX11_turned 3 rfl) (by decide) (fun h_ => absurd h_ (by decide)) (fun _ => ?_)
  refine wp_iload_n hX (dk DX11_turned 4 rfl) rfl ?_
  refine wp_iconst (v := 0) hX (dk DX11_turned 5 rfl) (by decide) ?_
  refine wp_iconst (v := 3) hX (dk DX11_turned 6 rfl) (by decide) ?_
  refine w_callS (As := [_, _, _]) lkX11_116 hX (dk DX11_turned 7 rfl) rfl (by decide) (k_wi1 (d + 109) w 3 3 _ rfl (by decide) (by omega)) ?_
  show WP _ _ _ 14 [_, _, _] [_] _
  refine wp_if_eq (tgt := 30) hX (dk DX11_turned 8 rfl) (by decide) (fun h_ => absurd h_ (by decide)) (fun _ => ?_)
  refine wp_aload_n hX (dk DX11_turned 9 rfl) rfl ?_
  refine w_getr hX flX11_9 (dk DX11_turned 10 rfl) rfl rfl ?_
  refine wp_iload_n hX (dk DX11_turned 11 rfl) rfl ?_
  refine w_iald (j := _) hX (dk DX11_turned 12 rfl) rfl rfl (show _ < 10 by omega) ?_
  rw [e82]
  refine wp_iload_n hX (dk DX11_turned 13 rfl) rfl ?_
  refine w_callS (As := [_, _]) lkX11_148 hX (dk DX11_turned 14 rfl) rfl (by decide) (k_turnedBy (d + 107) sw f g _ w hS hN0 (by omega)) ?_
  show WP _ _ _ 27 [_, _, _] [_] _
  refine wp_goto (tgt := 31) hX (dk DX11_turned 15 rfl) (by decide) ?_
  exact wp_ireturn hX hR (dk DX11_turned 17 rfl) rfl (Nat.le_refl _) (Nat.le_refl _) (⟨rfl, rfl⟩)
theorem u_ways0 (d : Nat) (sw : Bool) (f : Nat → Nat → Int32) (g : Nat → Nat → Int64) (n m : Nat) (x y : Int32) (hn : f 81 0 = nI n) (hn10 : n ≤ 10) (hm : f 81 5 = nI m) (hm6 : m ≤ 6) (h : ¬ ((∃ b i, b < m ∧ i < n ∧ i < 10 ∧ x = nI (10 * b + i)) ∧ ∃ w, w < 3 ∧ y = nI w)) : CT (d + 110) 0 0 iX11_ways [.ref 81, .int x, .int y] (S sw f g) (rdM g f (-1)) := by
  refine CT.rdM ?_
  refine CT.of rfl (Nat.le_of_ble_eq_true rfl) (fun X hX hR hN _ => ?_)
  have hX : Good X RX11 cX11_ways (d + 110) 0 0 := hX
  have hN : x_nl X = 5 := hN
  show WP X 0 0 0 [_, _, _, _, _] [] _
  by_cases c : ∃ b i, b < m ∧ i < n ∧ i < 10 ∧ x = nI (10 * b + i)
  · obtain ⟨b, i, hb, hi, hi10, rfl⟩ := c
    refine wp_aload_n hX (dk DX11_ways 0 rfl) rfl ?_
    refine wp_iload_n hX (dk DX11_ways 1 rfl) rfl ?_
    refine w_callV (As := [_]) lkX11_278 hX (dk DX11_ways 2 rfl) rfl rfl (by decide) hN (k_mI1 (d + 107) sw f g n m b i hn hn10 hm hm6 hb hi) ?_
    show WP _ _ _ 5 [_, _, _, _, _] [_] _
    refine wp_if_eq (tgt := 17) hX (dk DX11_ways 3 rfl) (by decide) (fun h_ => absurd h_ (by decide)) (fun _ => ?_)
    refine wp_iload_n hX (dk DX11_ways 4 rfl) rfl ?_
    refine wp_iconst (v := 0) hX (dk DX11_ways 5 rfl) (by decide) ?_
    refine wp_iconst (v := 2) hX (dk DX11_ways 6 rfl) (by decide) ?_
    refine w_callS (As := [_, _, _]) lkX11_116 hX (dk DX11_ways 7 rfl) rfl (by decide) (k_wi0 (d + 109) 2 y 2 _ rfl (by decide) (fun ⟨w, h1, h2⟩ => h ⟨⟨b, i, hb, hi, hi10, rfl⟩, w, by omega, h2⟩)) ?_
    show WP _ _ _ 14 [_, _, _, _, _] [_] _
    refine wp_if_ne (tgt := 19) hX (dk DX11_ways 8 rfl) (by decide) (fun h_ => absurd (rfl) h_) (fun _ => ?_)
    refine wp_iconst (v := -1) hX (dk DX11_ways 9 rfl) (by decide) ?_
    exact wp_ireturn hX hR (dk DX11_ways 10 rfl) rfl (Nat.le_refl _) (Nat.le_refl _) (⟨rfl, rfl⟩)
  · refine wp_aload_n hX (dk DX11_ways 0 rfl) rfl ?_
    refine wp_iload_n hX (dk DX11_ways 1 rfl) rfl ?_
    refine w_callV (As := [_]) lkX11_278 hX (dk DX11_ways 2 rfl) rfl rfl (by decide) hN (k_mI0 (d + 107) sw f g n m x hn hn10 hm hm6 c) ?_
    show WP _ _ _ 5 [_, _, _, _, _] [_] _
    refine wp_if_eq (tgt := 17) hX (dk DX11_ways 3 rfl) (by decide) (fun _ => ?_) (fun h_ => absurd (rfl) h_)
    refine wp_iconst (v := -1) hX (dk DX11_ways 9 rfl) (by decide) ?_
    exact wp_ireturn hX hR (dk DX11_ways 10 rfl) rfl (Nat.le_refl _) (Nat.le_refl _) (⟨rfl, rfl⟩)
theorem u_ways1 (d : Nat) (sw : Bool) (f : Nat → Nat → Int32) (g : Nat → Nat → Int64) (n m b i w : Nat) (sh : Nat → Int32) (h : mFg f n sh) (hm : f 81 5 = nI m) (hm6 : m ≤ 6) (hb : b < m) (hi : i < n) (hw : w < 3) : CT (d + 110) 0 0 iX11_ways [.ref 81, .int (nI (10 * b + i)), .int (nI w)] (S sw f g) (rdM g f (jwy (sh i) (f 86 b) w)) := by
  obtain ⟨hn, hn10, hsh⟩ := h
  obtain ⟨e82, hsp⟩ := hsh i hi
  obtain ⟨hS, hN0⟩ := shp_Sq hsp
  have hw3 : w = 0 ∨ w = 1 ∨ w = 2 := by omega
  refine CT.rdM ?_
  refine CT.of rfl (Nat.le_of_ble_eq_true rfl) (fun X hX hR hN _ => ?_)
  have hX : Good X RX11 cX11_ways (d + 110) 0 0 := hX
  have hN : x_nl X = 5 := hN
  show WP X 0 0 0 [_, _, _, _, _] [] _
  refine wp_aload_n hX (dk DX11_ways 0 rfl) rfl ?_
  refine wp_iload_n hX (dk DX11_ways 1 rfl) rfl ?_
  refine w_callV (As := [_]) lkX11_278 hX (dk DX11_ways 2 rfl) rfl rfl (by decide) hN (k_mI1 (d + 107) sw f g n m b i hn hn10 hm hm6 hb hi) ?_
  show WP _ _ _ 5 [_, _, _, _, _] [_] _
  refine wp_if_eq (tgt := 17) hX (dk DX11_ways 3 rfl) (by decide) (fun h_ => absurd h_ (by decide)) (fun _ => ?_)
  refine wp_iload_n hX (dk DX11_ways 4 rfl) rfl ?_
  refine wp_iconst (v := 0) hX (dk DX11_ways 5 rfl) (by decide) ?_
  refine wp_iconst (v := 2) hX (dk DX11_ways 6 rfl) (by decide) ?_
  refine w_callS (As := [_, _, _]) lkX11_116 hX (dk DX11_ways 7 rfl) rfl (by decide) (k_wi1 (d + 109) w 2 2 _ rfl (by decide) (by omega)) ?_
  show WP _ _ _ 14 [_, _, _, _, _] [_] _
  refine wp_if_ne (tgt := 19) hX (dk DX11_ways 8 rfl) (by decide) (fun _ => ?_) (fun h_ => absurd h_ (by decide))
  refine wp_aload_n hX (dk DX11_ways 11 rfl) rfl ?_
  refine w_getr hX flX11_9 (dk DX11_ways 12 rfl) rfl rfl ?_
  refine wp_iload_n hX (dk DX11_ways 13 rfl) rfl ?_
  refine wp_bipush (v := 10) hX (dk DX11_ways 14 rfl) (by decide) ?_
  refine wp_irem hX (dk DX11_ways 15 rfl) (by decide) ?_
  rw [show nI (10 * b + i) - nI (10 * b + i) / 10 * 10 = nI i from rm10 (by omega) (by omega)]
  refine w_iald (j := _) hX (dk DX11_ways 16 rfl) rfl rfl (show _ < 10 by omega) ?_
  rw [e82]
  refine wp_istore_n hX (dk DX11_ways 17 rfl) rfl rfl hN (Nat.le_of_ble_eq_true rfl) ?_
  show WP _ _ _ 29 [_, _, _, _, _] [] _
  refine wp_aload_n hX (dk DX11_ways 18 rfl) rfl ?_
  refine w_getr hX flX11_24 (dk DX11_ways 19 rfl) rfl rfl ?_
  refine wp_iload_n hX (dk DX11_ways 20 rfl) rfl ?_
  refine wp_bipush (v := 10) hX (dk DX11_ways 21 rfl) (by decide) ?_
  refine wp_idiv hX (dk DX11_ways 22 rfl) (by decide) ?_
  rw [dv10 (by omega) (by omega)]
  refine w_iald (j := _) hX (dk DX11_ways 23 rfl) rfl rfl (show _ < 6 by omega) ?_
  refine wp_istore hX (dk DX11_ways 24 rfl) rfl hN (Nat.le_of_ble_eq_true rfl) ?_
  show WP _ _ _ 40 [_, _, _, _, _] [] _
  rcases hw3 with rfl | rfl | rfl
  · refine wp_iload_n hX (dk DX11_ways 25 rfl) rfl ?_
    refine wp_iconst (v := 2) hX (dk DX11_ways 26 rfl) (by decide) ?_
    refine wp_icmp_ge (tgt := 53) hX (dk DX11_ways 27 rfl) (by decide) (fun h_ => absurd h_ (by decide)) (fun _ => ?_)
    refine wp_iload_n hX (dk DX11_ways 28 rfl) rfl ?_
    refine wp_iload hX (dk DX11_ways 29 rfl) rfl ?_
    refine wp_iload_n hX (dk DX11_ways 30 rfl) rfl ?_
    refine w_callS (As := [_, _, _]) lkX11_159 hX (dk DX11_ways 31 rfl) rfl (by decide) (k_waysIn (d + 106) sw f g _ _ _ hS hN0) ?_
    show WP _ _ _ 52 [_, _, _, _, _] [_] _
    rw [wyR_0 hS hN0 _ _ (by decide)]
    exact wp_ireturn hX hR (dk DX11_ways 32 rfl) rfl (Nat.le_refl _) (Nat.le_refl _) (⟨rfl, rfl⟩)
  · refine wp_iload_n hX (dk DX11_ways 25 rfl) rfl ?_
    refine wp_iconst (v := 2) hX (dk DX11_ways 26 rfl) (by decide) ?_
    refine wp_icmp_ge (tgt := 53) hX (dk DX11_ways 27 rfl) (by decide) (fun h_ => absurd h_ (by decide)) (fun _ => ?_)
    refine wp_iload_n hX (dk DX11_ways 28 rfl) rfl ?_
    refine wp_iload hX (dk DX11_ways 29 rfl) rfl ?_
    refine wp_iload_n hX (dk DX11_ways 30 rfl) rfl ?_
    refine w_callS (As := [_, _, _]) lkX11_159 hX (dk DX11_ways 31 rfl) rfl (by decide) (k_waysIn (d + 106) sw f g _ _ _ hS hN0) ?_
    show WP _ _ _ 52 [_, _, _, _, _] [_] _
    rw [show wyR (sh i) (f 86 b) (nI 1) 100 0 0 = jwy (sh i) (f 86 b) 1 from wyR_1 hS hN0 _]
    exact wp_ireturn hX hR (dk DX11_ways 32 rfl) rfl (Nat.le_refl _) (Nat.le_refl _) (⟨rfl, rfl⟩)
  · refine wp_iload_n hX (dk DX11_ways 25 rfl) rfl ?_
    refine wp_iconst (v := 2) hX (dk DX11_ways 26 rfl) (by decide) ?_
    refine wp_icmp_ge (tgt := 53) hX (dk DX11_ways 27 rfl) (by decide) (fun _ => ?_) (fun h_ => absurd (by decide) h_)
    refine wp_iload_n hX (dk DX11_ways 33 rfl) rfl ?_
    refine wp_iload hX (dk DX11_ways 34 rfl) rfl ?_
    refine w_callS (As := [_, _]) lkX11_162 hX (dk DX11_ways 35 rfl) rfl (by decide) (k_mcut (d + 105) sw f g _ _ hsp) ?_
    show WP _ _ _ 59 [_, _, _, _, _] [_] _
    refine wp_if_eq (tgt := 75) hX (dk DX11_ways 36 rfl) (by decide) (fun h59 => ?_) (fun h59 => ?_)
    · refine wp_bipush (v := -2) hX (dk DX11_ways 43 rfl) (by decide) ?_
      exact wp_ireturn hX hR (dk DX11_ways 44 rfl) rfl (Nat.le_refl _) (Nat.le_refl _) (⟨by simp [jwy, h59], rfl⟩)
    · refine wp_iload hX (dk DX11_ways 37 rfl) rfl ?_
      refine w_callS (As := [_]) lkX11_156 hX (dk DX11_ways 38 rfl) rfl (by decide) (k_mcells (d + 108) sw f g _) ?_
      show WP _ _ _ 67 [_, _, _, _, _] [_] _
      refine wp_iload_n hX (dk DX11_ways 39 rfl) rfl ?_
      refine w_callS (As := [_]) lkX11_156 hX (dk DX11_ways 40 rfl) rfl (by simp [Value.category]) (k_mcells (d + 108) sw f g _) ?_
      show WP _ _ _ 71 [_, _, _, _, _] [_, _] _
      refine wp_isub hX (dk DX11_ways 41 rfl) ?_
      refine wp_goto (tgt := 77) hX (dk DX11_ways 42 rfl) (by decide) ?_
      exact wp_ireturn hX hR (dk DX11_ways 44 rfl) rfl (Nat.le_refl _) (Nat.le_refl _) (⟨by simp [jwy, h59], rfl⟩)
theorem u_inside0 (d : Nat) (sw : Bool) (f : Nat → Nat → Int32) (g : Nat → Nat → Int64) (n : Nat) (x : Int32) (hn : f 81 0 = nI n) (hn10 : n ≤ 10) (h : ¬ two n x) : CT (d + 110) 0 0 iX11_inside [.ref 81, .int x] (S sw f g) (rdM g f (-1)) := by
  refine CT.rdM ?_
  refine CT.of rfl (Nat.le_of_ble_eq_true rfl) (fun X hX hR hN _ => ?_)
  have hX : Good X RX11 cX11_inside (d + 110) 0 0 := hX
  have hN : x_nl X = 2 := hN
  show WP X 0 0 0 [_, _] [] _
  refine wp_aload_n hX (dk DX11_inside 0 rfl) rfl ?_
  refine wp_iload_n hX (dk DX11_inside 1 rfl) rfl ?_
  refine w_callV (As := [_]) lkX11_281 hX (dk DX11_inside 2 rfl) rfl rfl (by decide) hN (k_mT0 (d + 107) sw f g n x hn hn10 h) ?_
  show WP _ _ _ 5 [_, _] [_] _
  refine wp_if_eq (tgt := 40) hX (dk DX11_inside 3 rfl) (by decide) (fun _ => ?_) (fun h_ => absurd (rfl) h_)
  refine wp_iconst (v := -1) hX (dk DX11_inside 22 rfl) (by decide) ?_
  exact wp_ireturn hX hR (dk DX11_inside 23 rfl) rfl (Nat.le_refl _) (Nat.le_refl _) (⟨rfl, rfl⟩)
theorem u_inside1 (d : Nat) (sw : Bool) (f : Nat → Nat → Int32) (g : Nat → Nat → Int64) (n a b : Nat) (sh : Nat → Int32) (h : mFg f n sh) (ha : a < n) (hb : b < n) (hab : a ≠ b) : CT (d + 110) 0 0 iX11_inside [.ref 81, .int (nI (10 * a + b))] (S sw f g) (rdM g f (if jct (sh a) (sh b) = 0 then 0 else 1)) := by
  obtain ⟨hn, hn10, hsh⟩ := h
  refine CT.rdM ?_
  refine CT.of rfl (Nat.le_of_ble_eq_true rfl) (fun X hX hR hN _ => ?_)
  have hX : Good X RX11 cX11_inside (d + 110) 0 0 := hX
  have hN : x_nl X = 2 := hN
  show WP X 0 0 0 [_, _] [] _
  refine wp_aload_n hX (dk DX11_inside 0 rfl) rfl ?_
  refine wp_iload_n hX (dk DX11_inside 1 rfl) rfl ?_
  refine w_callV (As := [_]) lkX11_281 hX (dk DX11_inside 2 rfl) rfl rfl (by decide) hN (k_mT1 (d + 107) sw f g n a b hn hn10 ha hb hab) ?_
  show WP _ _ _ 5 [_, _] [_] _
  refine wp_if_eq (tgt := 40) hX (dk DX11_inside 3 rfl) (by decide) (fun h_ => absurd h_ (by decide)) (fun _ => ?_)
  refine wp_aload_n hX (dk DX11_inside 4 rfl) rfl ?_
  refine w_getr hX flX11_9 (dk DX11_inside 5 rfl) rfl rfl ?_
  refine wp_iload_n hX (dk DX11_inside 6 rfl) rfl ?_
  refine wp_bipush (v := 10) hX (dk DX11_inside 7 rfl) (by decide) ?_
  refine wp_idiv hX (dk DX11_inside 8 rfl) (by decide) ?_
  rw [dv10 (by omega) (by omega)]
  refine w_iald (j := _) hX (dk DX11_inside 9 rfl) rfl rfl (show _ < 10 by omega) ?_
  rw [(hsh a ha).1]
  refine wp_aload_n hX (dk DX11_inside 10 rfl) rfl ?_
  refine w_getr hX flX11_9 (dk DX11_inside 11 rfl) rfl rfl ?_
  refine wp_iload_n hX (dk DX11_inside 12 rfl) rfl ?_
  refine wp_bipush (v := 10) hX (dk DX11_inside 13 rfl) (by decide) ?_
  refine wp_irem hX (dk DX11_inside 14 rfl) (by decide) ?_
  rw [show nI (10 * a + b) - nI (10 * a + b) / 10 * 10 = nI b from rm10 (by omega) (by omega)]
  refine w_iald (j := _) hX (dk DX11_inside 15 rfl) rfl rfl (show _ < 10 by omega) ?_
  rw [(hsh b hb).1]
  refine w_callS (As := [_, _]) lkX11_162 hX (dk DX11_inside 16 rfl) rfl (by decide) (k_mcut (d + 105) sw f g _ _ (hsh a ha).2) ?_
  show WP _ _ _ 29 [_, _] [_] _
  refine wp_if_eq (tgt := 36) hX (dk DX11_inside 17 rfl) (by decide) (fun h29 => ?_) (fun h29 => ?_)
  · refine wp_iconst (v := 0) hX (dk DX11_inside 20 rfl) (by decide) ?_
    refine wp_goto (tgt := 41) hX (dk DX11_inside 21 rfl) (by decide) ?_
    exact wp_ireturn hX hR (dk DX11_inside 23 rfl) rfl (Nat.le_refl _) (Nat.le_refl _) (⟨by simp [h29], rfl⟩)
  · refine wp_iconst (v := 1) hX (dk DX11_inside 18 rfl) (by decide) ?_
    refine wp_goto (tgt := 41) hX (dk DX11_inside 19 rfl) (by decide) ?_
    exact wp_ireturn hX hR (dk DX11_inside 23 rfl) rfl (Nat.le_refl _) (Nat.le_refl _) (⟨by simp [h29], rfl⟩)
theorem u_around0 (d : Nat) (sw : Bool) (f : Nat → Nat → Int32) (g : Nat → Nat → Int64) (n : Nat) (x y : Int32) (hn : f 81 0 = nI n) (hn10 : n ≤ 10) (h : ¬ ((∃ i, i < n ∧ x = nI i) ∧ ∃ w, w < 2 ∧ y = nI w)) : CT (d + 110) 0 0 iX11_around [.ref 81, .int x, .int y] (S sw f g) (rdM g f (-1)) := by
  refine CT.rdM ?_
  refine CT.of rfl (Nat.le_of_ble_eq_true rfl) (fun X hX hR hN _ => ?_)
  have hX : Good X RX11 cX11_around (d + 110) 0 0 := hX
  have hN : x_nl X = 5 := hN
  show WP X 0 0 0 [_, _, _, _, _] [] _
  by_cases c1 : ∃ i, i < n ∧ x = nI i
  · obtain ⟨i, hi, rfl⟩ := c1
    refine wp_aload_n hX (dk DX11_around 0 rfl) rfl ?_
    refine wp_iload_n hX (dk DX11_around 1 rfl) rfl ?_
    refine w_callV (As := [_]) lkX11_127 hX (dk DX11_around 2 rfl) rfl rfl (by decide) hN (k_mF1 (d + 108) sw f g n i hn hn10 hi) ?_
    show WP _ _ _ 5 [_, _, _, _, _] [_] _
    refine wp_if_eq (tgt := 17) hX (dk DX11_around 3 rfl) (by decide) (fun h_ => absurd h_ (by decide)) (fun _ => ?_)
    refine wp_iload_n hX (dk DX11_around 4 rfl) rfl ?_
    refine wp_iconst (v := 0) hX (dk DX11_around 5 rfl) (by decide) ?_
    refine wp_iconst (v := 1) hX (dk DX11_around 6 rfl) (by decide) ?_
    refine w_callS (As := [_, _, _]) lkX11_116 hX (dk DX11_around 7 rfl) rfl (by decide) (k_wi0 (d + 109) 1 y 1 _ rfl (by decide) (fun ⟨w, h1, h2⟩ => h ⟨⟨i, hi, rfl⟩, w, by omega, h2⟩)) ?_
    show WP _ _ _ 14 [_, _, _, _, _] [_] _
    refine wp_if_ne (tgt := 19) hX (dk DX11_around 8 rfl) (by decide) (fun h_ => absurd (rfl) h_) (fun _ => ?_)
    refine wp_iconst (v := -1) hX (dk DX11_around 9 rfl) (by decide) ?_
    exact wp_ireturn hX hR (dk DX11_around 10 rfl) rfl (Nat.le_refl _) (Nat.le_refl _) (⟨rfl, rfl⟩)
  · refine wp_aload_n hX (dk DX11_around 0 rfl) rfl ?_
    refine wp_iload_n hX (dk DX11_around 1 rfl) rfl ?_
    refine w_callV (As := [_]) lkX11_127 hX (dk DX11_around 2 rfl) rfl rfl (by decide) hN (k_mF0 (d + 108) sw f g n x hn hn10 c1) ?_
    show WP _ _ _ 5 [_, _, _, _, _] [_] _
    refine wp_if_eq (tgt := 17) hX (dk DX11_around 3 rfl) (by decide) (fun _ => ?_) (fun h_ => absurd (rfl) h_)
    refine wp_iconst (v := -1) hX (dk DX11_around 9 rfl) (by decide) ?_
    exact wp_ireturn hX hR (dk DX11_around 10 rfl) rfl (Nat.le_refl _) (Nat.le_refl _) (⟨rfl, rfl⟩)
theorem u_around1 (d : Nat) (sw : Bool) (f : Nat → Nat → Int32) (g : Nat → Nat → Int64) (n i w : Nat) (sh : Nat → Int32) (h : mFg f n sh) (hi : i < n) (hw : w < 2) : CT (d + 110) 0 0 iX11_around [.ref 81, .int (nI i), .int (nI w)] (S sw f g) (rdM g f (if w = 0 then jbs (fun k => jct (sh i) (sh k)) n else jfo sh n (sh i))) := by
  obtain ⟨hn, hn10, hsh⟩ := h
  have hw3 : w = 0 ∨ w = 1 := by omega
  refine CT.rdM ?_
  refine CT.of rfl (Nat.le_of_ble_eq_true rfl) (fun X hX hR hN _ => ?_)
  have hX : Good X RX11 cX11_around (d + 110) 0 0 := hX
  have hN : x_nl X = 5 := hN
  show WP X 0 0 0 [_, _, _, _, _] [] _
  refine wp_aload_n hX (dk DX11_around 0 rfl) rfl ?_
  refine wp_iload_n hX (dk DX11_around 1 rfl) rfl ?_
  refine w_callV (As := [_]) lkX11_127 hX (dk DX11_around 2 rfl) rfl rfl (by decide) hN (k_mF1 (d + 108) sw f g n i hn hn10 hi) ?_
  show WP _ _ _ 5 [_, _, _, _, _] [_] _
  refine wp_if_eq (tgt := 17) hX (dk DX11_around 3 rfl) (by decide) (fun h_ => absurd h_ (by decide)) (fun _ => ?_)
  refine wp_iload_n hX (dk DX11_around 4 rfl) rfl ?_
  refine wp_iconst (v := 0) hX (dk DX11_around 5 rfl) (by decide) ?_
  refine wp_iconst (v := 1) hX (dk DX11_around 6 rfl) (by decide) ?_
  refine w_callS (As := [_, _, _]) lkX11_116 hX (dk DX11_around 7 rfl) rfl (by decide) (k_wi1 (d + 109) w 1 1 _ rfl (by decide) (by omega)) ?_
  show WP _ _ _ 14 [_, _, _, _, _] [_] _
  refine wp_if_ne (tgt := 19) hX (dk DX11_around 8 rfl) (by decide) (fun _ => ?_) (fun h_ => absurd h_ (by decide))
  rcases hw3 with rfl | rfl
  · have lo : ∀ (m k : Nat), k + m = n → WP X 0 0 40 [some (.ref 81), some (.int (nI i)), some (.int (nI 0)), some (.int (jbs (fun k => jct (sh i) (sh k)) k)), some (.int (nI k))] [] (S sw f g) := by
      intro m
      induction m with
      | zero =>
        intro k hk
        obtain rfl : k = n := by omega
        refine wp_iload hX (dk DX11_around 25 rfl) rfl ?_
        refine wp_aload_n hX (dk DX11_around 26 rfl) rfl ?_
        refine w_geti hX flX11_112 (dk DX11_around 27 rfl) (by decide) rfl ?_
        refine wp_icmp_ge (tgt := 81) hX (dk DX11_around 28 rfl) (by decide) (fun _ => ?_) (fun h_ => absurd (by rw [hn]; exact nI_le (by omega) (by omega)) h_)
        refine wp_iload_n hX (dk DX11_around 47 rfl) rfl ?_
        exact wp_ireturn hX hR (dk DX11_around 48 rfl) rfl (Nat.le_refl _) (Nat.le_refl _) (⟨rfl, rfl⟩)
      | succ m ih =>
        intro k hk
        refine wp_iload hX (dk DX11_around 25 rfl) rfl ?_
        refine wp_aload_n hX (dk DX11_around 26 rfl) rfl ?_
        refine w_geti hX flX11_112 (dk DX11_around 27 rfl) (by decide) rfl ?_
        refine wp_icmp_ge (tgt := 81) hX (dk DX11_around 28 rfl) (by decide) (fun h_ => absurd h_ (by rw [hn]; exact nI_ge (by omega) (by omega))) (fun _ => ?_)
        refine wp_aload_n hX (dk DX11_around 29 rfl) rfl ?_
        refine w_getr hX flX11_9 (dk DX11_around 30 rfl) rfl rfl ?_
        refine wp_iload_n hX (dk DX11_around 31 rfl) rfl ?_
        refine w_iald (j := _) hX (dk DX11_around 32 rfl) rfl rfl (show _ < 10 by omega) ?_
        rw [(hsh i hi).1]
        refine wp_aload_n hX (dk DX11_around 33 rfl) rfl ?_
        refine w_getr hX flX11_9 (dk DX11_around 34 rfl) rfl rfl ?_
        refine wp_iload hX (dk DX11_around 35 rfl) rfl ?_
        refine w_iald (j := _) hX (dk DX11_around 36 rfl) rfl rfl (show _ < 10 by omega) ?_
        rw [(hsh k (by omega)).1]
        refine w_callS (As := [_, _]) lkX11_162 hX (dk DX11_around 37 rfl) rfl (by decide) (k_mcut (d + 105) sw f g _ _ (hsh i hi).2) ?_
        show WP _ _ _ 65 [_, _, _, _, _] [_] _
        refine wp_if_eq (tgt := 75) hX (dk DX11_around 38 rfl) (by decide) (fun h65 => ?_) (fun h65 => ?_)
        · refine wp_iinc hX (dk DX11_around 45 rfl) rfl (nI_inc _) rfl hN ?_
          show WP _ _ _ 78 [_, _, _, _, _] [] _
          refine wp_goto (tgt := 40) hX (dk DX11_around 46 rfl) (by decide) ?_
          have := ih (k + 1) (by omega)
          rw [jbs] at this
          by_cases c : jct (sh i) (sh k) = 0
          · rw [if_pos c] at this; first | exact this | exact absurd c h65
          · rw [if_neg c] at this; first | exact this | exact absurd h65 c
        · refine wp_iload_n hX (dk DX11_around 39 rfl) rfl ?_
          refine wp_iconst (v := 1) hX (dk DX11_around 40 rfl) (by decide) ?_
          refine wp_iload hX (dk DX11_around 41 rfl) rfl ?_
          refine wp_ishl hX (dk DX11_around 42 rfl) ?_
          refine wp_ior hX (dk DX11_around 43 rfl) ?_
          refine wp_istore_n hX (dk DX11_around 44 rfl) rfl rfl hN (Nat.le_of_ble_eq_true rfl) ?_
          show WP _ _ _ 75 [_, _, _, _, _] [] _
          refine wp_iinc hX (dk DX11_around 45 rfl) rfl (nI_inc _) rfl hN ?_
          show WP _ _ _ 78 [_, _, _, _, _] [] _
          refine wp_goto (tgt := 40) hX (dk DX11_around 46 rfl) (by decide) ?_
          have := ih (k + 1) (by omega)
          rw [jbs] at this
          by_cases c : jct (sh i) (sh k) = 0
          · rw [if_pos c] at this; first | exact this | exact absurd c h65
          · rw [if_neg c] at this; first | exact this | exact absurd h65 c
    refine wp_iload_n hX (dk DX11_around 11 rfl) rfl ?_
    refine wp_iconst (v := 1) hX (dk DX11_around 12 rfl) (by decide) ?_
    refine wp_icmp_ne (tgt := 35) hX (dk DX11_around 13 rfl) (by decide) (fun _ => ?_) (fun h_ => absurd h_ (by decide))
    refine wp_iconst (v := 0) hX (dk DX11_around 21 rfl) (by decide) ?_
    refine wp_istore_n hX (dk DX11_around 22 rfl) rfl rfl hN (Nat.le_of_ble_eq_true rfl) ?_
    show WP _ _ _ 37 [_, _, _, _, _] [] _
    refine wp_iconst (v := 0) hX (dk DX11_around 23 rfl) (by decide) ?_
    refine wp_istore hX (dk DX11_around 24 rfl) rfl hN (Nat.le_of_ble_eq_true rfl) ?_
    show WP _ _ _ 40 [_, _, _, _, _] [] _
    exact lo n 0 (by omega)
  · refine wp_iload_n hX (dk DX11_around 11 rfl) rfl ?_
    refine wp_iconst (v := 1) hX (dk DX11_around 12 rfl) (by decide) ?_
    refine wp_icmp_ne (tgt := 35) hX (dk DX11_around 13 rfl) (by decide) (fun h_ => absurd (rfl) h_) (fun _ => ?_)
    refine wp_aload_n hX (dk DX11_around 14 rfl) rfl ?_
    refine wp_aload_n hX (dk DX11_around 15 rfl) rfl ?_
    refine w_getr hX flX11_9 (dk DX11_around 16 rfl) rfl rfl ?_
    refine wp_iload_n hX (dk DX11_around 17 rfl) rfl ?_
    refine w_iald (j := _) hX (dk DX11_around 18 rfl) rfl rfl (show _ < 10 by omega) ?_
    rw [(hsh i hi).1]
    refine w_callV (As := [_]) lkX11_165 hX (dk DX11_around 19 rfl) rfl rfl (by decide) hN (k_cutOf (d + 104) sw f g n sh _ ⟨hn, hn10, hsh⟩) ?_
    show WP _ _ _ 34 [_, _, _, _, _] [_] _
    exact wp_ireturn hX hR (dk DX11_around 20 rfl) rfl (Nat.le_refl _) (Nat.le_refl _) (⟨rfl, rfl⟩)
theorem k_ball (n : Nat) : (1 : Int32) <<< (nI n &&& 31) - 1 = jall (nI n) := rfl
theorem u_common0 (d : Nat) (sw : Bool) (f : Nat → Nat → Int32) (g : Nat → Nat → Int64) (n : Nat) (x : Int32) (hn : f 81 0 = nI n) (hn10 : n ≤ 10) (h : ¬ (¬ x < 0 ∧ ¬ jall (nI n) < x)) : CT (d + 110) 0 0 iX11_common [.ref 81, .int x] (S sw f g) (rdM g f (-1)) := by
  refine CT.rdM ?_
  refine CT.of rfl (Nat.le_of_ble_eq_true rfl) (fun X hX hR hN _ => ?_)
  have hX : Good X RX11 cX11_common (d + 110) 0 0 := hX
  have hN : x_nl X = 4 := hN
  show WP X 0 0 0 [_, _, _, _] [] _
  refine wp_iload_n hX (dk DX11_common 0 rfl) rfl ?_
  refine wp_iconst (v := 0) hX (dk DX11_common 1 rfl) (by decide) ?_
  refine wp_iconst (v := 1) hX (dk DX11_common 2 rfl) (by decide) ?_
  refine wp_aload_n hX (dk DX11_common 3 rfl) rfl ?_
  refine w_geti hX flX11_112 (dk DX11_common 4 rfl) (by decide) rfl ?_
  refine wp_ishl hX (dk DX11_common 5 rfl) ?_
  refine wp_iconst (v := 1) hX (dk DX11_common 6 rfl) (by decide) ?_
  refine wp_isub hX (dk DX11_common 7 rfl) ?_
  refine w_callS (As := [_, _, _]) lkX11_116 hX (dk DX11_common 8 rfl) rfl (by decide) (k_within (d + 109) x 0 _ _) ?_
  show WP _ _ _ 13 [_, _, _, _] [_] _
  rw [hn, k_ball, if_neg h]
  refine wp_if_ne (tgt := 18) hX (dk DX11_common 9 rfl) (by decide) (fun h_ => absurd (rfl) h_) (fun _ => ?_)
  refine wp_iconst (v := -1) hX (dk DX11_common 10 rfl) (by decide) ?_
  exact wp_ireturn hX hR (dk DX11_common 11 rfl) rfl (Nat.le_refl _) (Nat.le_refl _) (⟨rfl, rfl⟩)
theorem u_common1 (d : Nat) (sw : Bool) (f : Nat → Nat → Int32) (g : Nat → Nat → Int64) (n : Nat) (sh : Nat → Int32) (x : Int32) (hm : mFg f n sh) (h : ¬ x < 0 ∧ ¬ jall (nI n) < x) : CT (d + 110) 0 0 iX11_common [.ref 81, .int x] (S sw f g) (rdM g f (jcom (fun i => jfo sh n (sh i)) (jall (nI n)) x n)) := by
  obtain ⟨hn, hn10, hsh⟩ := hm
  refine CT.rdM ?_
  refine CT.of rfl (Nat.le_of_ble_eq_true rfl) (fun X hX hR hN _ => ?_)
  have hX : Good X RX11 cX11_common (d + 110) 0 0 := hX
  have hN : x_nl X = 4 := hN
  show WP X 0 0 0 [_, _, _, _] [] _
  have lo : ∀ (m i : Nat), i + m = n → WP X 0 0 29 [some (.ref 81), some (.int x), some (.int (jcom (fun i => jfo sh n (sh i)) (jall (nI n)) x i)), some (.int (nI i))] [] (S sw f g) := by
    intro m
    induction m with
    | zero =>
      intro i hi
      obtain rfl : i = n := by omega
      refine wp_iload_n hX (dk DX11_common 21 rfl) rfl ?_
      refine wp_aload_n hX (dk DX11_common 22 rfl) rfl ?_
      refine w_geti hX flX11_112 (dk DX11_common 23 rfl) (by decide) rfl ?_
      refine wp_icmp_ge (tgt := 64) hX (dk DX11_common 24 rfl) (by decide) (fun _ => ?_) (fun h_ => absurd (by rw [hn]; exact nI_le (by omega) (by omega)) h_)
      refine wp_iload_n hX (dk DX11_common 40 rfl) rfl ?_
      exact wp_ireturn hX hR (dk DX11_common 41 rfl) rfl (Nat.le_refl _) (Nat.le_refl _) (⟨rfl, rfl⟩)
    | succ m ih =>
      intro i hi
      refine wp_iload_n hX (dk DX11_common 21 rfl) rfl ?_
      refine wp_aload_n hX (dk DX11_common 22 rfl) rfl ?_
      refine w_geti hX flX11_112 (dk DX11_common 23 rfl) (by decide) rfl ?_
      refine wp_icmp_ge (tgt := 64) hX (dk DX11_common 24 rfl) (by decide) (fun h_ => absurd h_ (by rw [hn]; exact nI_ge (by omega) (by omega))) (fun _ => ?_)
      refine wp_iload_n hX (dk DX11_common 25 rfl) rfl ?_
      refine wp_iload_n hX (dk DX11_common 26 rfl) rfl ?_
      refine w_callS (As := [_, _]) lkX11_138 hX (dk DX11_common 27 rfl) rfl (by decide) (k_mhas (d + 109) x _ _) ?_
      show WP _ _ _ 42 [_, _, _, _] [_] _
      refine wp_if_eq (tgt := 58) hX (dk DX11_common 28 rfl) (by decide) (fun h42 => ?_) (fun h42 => ?_)
      · refine wp_iinc hX (dk DX11_common 38 rfl) rfl (nI_inc _) rfl hN ?_
        show WP _ _ _ 61 [_, _, _, _] [] _
        refine wp_goto (tgt := 29) hX (dk DX11_common 39 rfl) (by decide) ?_
        have := ih (i + 1) (by omega)
        rw [jcom] at this
        by_cases c : jb x i = 0
        · rw [if_pos c] at this; first | exact this | exact absurd c h42
        · rw [if_neg c] at this; first | exact this | exact absurd h42 c
      · refine wp_iload_n hX (dk DX11_common 29 rfl) rfl ?_
        refine wp_aload_n hX (dk DX11_common 30 rfl) rfl ?_
        refine wp_aload_n hX (dk DX11_common 31 rfl) rfl ?_
        refine w_getr hX flX11_9 (dk DX11_common 32 rfl) rfl rfl ?_
        refine wp_iload_n hX (dk DX11_common 33 rfl) rfl ?_
        refine w_iald (j := _) hX (dk DX11_common 34 rfl) rfl rfl (show _ < 10 by omega) ?_
        rw [(hsh i (by omega)).1]
        refine w_callV (As := [_]) lkX11_165 hX (dk DX11_common 35 rfl) rfl rfl (by simp [Value.category]) hN (k_cutOf (d + 104) sw f g n sh _ ⟨hn, hn10, hsh⟩) ?_
        show WP _ _ _ 56 [_, _, _, _] [_, _] _
        refine wp_iand hX (dk DX11_common 36 rfl) ?_
        refine wp_istore_n hX (dk DX11_common 37 rfl) rfl rfl hN (Nat.le_of_ble_eq_true rfl) ?_
        show WP _ _ _ 58 [_, _, _, _] [] _
        refine wp_iinc hX (dk DX11_common 38 rfl) rfl (nI_inc _) rfl hN ?_
        show WP _ _ _ 61 [_, _, _, _] [] _
        refine wp_goto (tgt := 29) hX (dk DX11_common 39 rfl) (by decide) ?_
        have := ih (i + 1) (by omega)
        rw [jcom] at this
        by_cases c : jb x i = 0
        · rw [if_pos c] at this; first | exact this | exact absurd c h42
        · rw [if_neg c] at this; first | exact this | exact absurd h42 c
  refine wp_iload_n hX (dk DX11_common 0 rfl) rfl ?_
  refine wp_iconst (v := 0) hX (dk DX11_common 1 rfl) (by decide) ?_
  refine wp_iconst (v := 1) hX (dk DX11_common 2 rfl) (by decide) ?_
  refine wp_aload_n hX (dk DX11_common 3 rfl) rfl ?_
  refine w_geti hX flX11_112 (dk DX11_common 4 rfl) (by decide) rfl ?_
  refine wp_ishl hX (dk DX11_common 5 rfl) ?_
  refine wp_iconst (v := 1) hX (dk DX11_common 6 rfl) (by decide) ?_
  refine wp_isub hX (dk DX11_common 7 rfl) ?_
  refine w_callS (As := [_, _, _]) lkX11_116 hX (dk DX11_common 8 rfl) rfl (by decide) (k_within (d + 109) x 0 _ _) ?_
  show WP _ _ _ 13 [_, _, _, _] [_] _
  rw [hn, k_ball, if_pos h]
  refine wp_if_ne (tgt := 18) hX (dk DX11_common 9 rfl) (by decide) (fun _ => ?_) (fun h_ => absurd h_ (by decide))
  refine wp_iconst (v := 1) hX (dk DX11_common 12 rfl) (by decide) ?_
  refine wp_aload_n hX (dk DX11_common 13 rfl) rfl ?_
  refine w_geti hX flX11_112 (dk DX11_common 14 rfl) (by decide) rfl ?_
  refine wp_ishl hX (dk DX11_common 15 rfl) ?_
  refine wp_iconst (v := 1) hX (dk DX11_common 16 rfl) (by decide) ?_
  refine wp_isub hX (dk DX11_common 17 rfl) ?_
  refine wp_istore_n hX (dk DX11_common 18 rfl) rfl rfl hN (Nat.le_of_ble_eq_true rfl) ?_
  show WP _ _ _ 27 [_, _, _, _] [] _
  refine wp_iconst (v := 0) hX (dk DX11_common 19 rfl) (by decide) ?_
  refine wp_istore_n hX (dk DX11_common 20 rfl) rfl rfl hN (Nat.le_of_ble_eq_true rfl) ?_
  show WP _ _ _ 29 [_, _, _, _] [] _
  rw [hn]
  exact lo n 0 (by omega)
