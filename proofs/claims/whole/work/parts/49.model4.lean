/-! THE REFERENCE'S CALLS: blocks, traits, changes, tape -/
def mnb (f : Nat → Nat → Int32) (m : Nat) (x : Int32) : Nat → Nat → Int32 := u2 (u2 (u2 f 86 m x) 87 m 0) 81 5 (nI (m + 1))
theorem u_block0 (d : Nat) (sw : Bool) (f : Nat → Nat → Int32) (g : Nat → Nat → Int64) (x : Int32) (h : ¬ shp x) : CT (d + 110) 0 0 iX11_block [.ref 81, .int x] (S sw f g) (rdM g f (-1)) := by
  refine CT.rdM ?_
  refine CT.of rfl (Nat.le_of_ble_eq_true rfl) (fun X hX hR hN _ => ?_)
  have hX : Good X RX11 cX11_block (d + 110) 0 0 := hX
  have hN : x_nl X = 2 := hN
  show WP X 0 0 0 [_, _] [] _
  refine wp_iload_n hX (dk DX11_block 0 rfl) rfl ?_
  refine w_callS (As := [_]) lkX11_168 hX (dk DX11_block 1 rfl) rfl (by decide) (k_mS0 (d + 108) sw f g x h) ?_
  show WP _ _ _ 4 [_, _] [_] _
  refine wp_if_ne (tgt := 9) hX (dk DX11_block 2 rfl) (by decide) (fun h_ => absurd (rfl) h_) (fun _ => ?_)
  refine wp_iconst (v := -1) hX (dk DX11_block 3 rfl) (by decide) ?_
  exact wp_ireturn hX hR (dk DX11_block 4 rfl) rfl (Nat.le_refl _) (Nat.le_refl _) (⟨rfl, rfl⟩)
theorem u_blockF (d : Nat) (sw : Bool) (f : Nat → Nat → Int32) (g : Nat → Nat → Int64) (x : Int32) (h : shp x) (hm : f 81 5 = nI 6) : CT (d + 110) 0 0 iX11_block [.ref 81, .int x] (S sw f g) (rdM g f (-3)) := by
  refine CT.rdM ?_
  refine CT.of rfl (Nat.le_of_ble_eq_true rfl) (fun X hX hR hN _ => ?_)
  have hX : Good X RX11 cX11_block (d + 110) 0 0 := hX
  have hN : x_nl X = 2 := hN
  show WP X 0 0 0 [_, _] [] _
  refine wp_iload_n hX (dk DX11_block 0 rfl) rfl ?_
  refine w_callS (As := [_]) lkX11_168 hX (dk DX11_block 1 rfl) rfl (by decide) (k_mS1 (d + 108) sw f g x h) ?_
  show WP _ _ _ 4 [_, _] [_] _
  refine wp_if_ne (tgt := 9) hX (dk DX11_block 2 rfl) (by decide) (fun _ => ?_) (fun h_ => absurd h_ (by decide))
  refine wp_aload_n hX (dk DX11_block 5 rfl) rfl ?_
  refine w_geti hX flX11_120 (dk DX11_block 6 rfl) (by decide) rfl ?_
  refine wp_bipush (v := 6) hX (dk DX11_block 7 rfl) (by decide) ?_
  rw [hm]
  refine wp_icmp_ne (tgt := 21) hX (dk DX11_block 8 rfl) (by decide) (fun h_ => absurd (rfl) h_) (fun _ => ?_)
  refine wp_bipush (v := -3) hX (dk DX11_block 9 rfl) (by decide) ?_
  exact wp_ireturn hX hR (dk DX11_block 10 rfl) rfl (Nat.le_refl _) (Nat.le_refl _) (⟨rfl, rfl⟩)
theorem u_block1 (d : Nat) (sw : Bool) (f : Nat → Nat → Int32) (g : Nat → Nat → Int64) (m : Nat) (x : Int32) (h : shp x) (hm : f 81 5 = nI m) (hm6 : m < 6) : CT (d + 110) 0 0 iX11_block [.ref 81, .int x] (S sw f g) (QR (some (.int (nI m))) (S sw (mnb f m x) g)) := by
  refine CT.of rfl (Nat.le_of_ble_eq_true rfl) (fun X hX hR hN _ => ?_)
  have hX : Good X RX11 cX11_block (d + 110) 0 0 := hX
  have hN : x_nl X = 2 := hN
  show WP X 0 0 0 [_, _] [] _
  refine wp_iload_n hX (dk DX11_block 0 rfl) rfl ?_
  refine w_callS (As := [_]) lkX11_168 hX (dk DX11_block 1 rfl) rfl (by decide) (k_mS1 (d + 108) sw f g x h) ?_
  show WP _ _ _ 4 [_, _] [_] _
  refine wp_if_ne (tgt := 9) hX (dk DX11_block 2 rfl) (by decide) (fun _ => ?_) (fun h_ => absurd h_ (by decide))
  refine wp_aload_n hX (dk DX11_block 5 rfl) rfl ?_
  refine w_geti hX flX11_120 (dk DX11_block 6 rfl) (by decide) rfl ?_
  refine wp_bipush (v := 6) hX (dk DX11_block 7 rfl) (by decide) ?_
  rw [hm]
  refine wp_icmp_ne (tgt := 21) hX (dk DX11_block 8 rfl) (by decide) (fun _ => ?_) (fun h_ => absurd h_ (fun q => by have := (nI_eq (b := 6) (by omega) (by decide)).mp q; omega))
  refine wp_aload_n hX (dk DX11_block 11 rfl) rfl ?_
  refine w_getr hX flX11_24 (dk DX11_block 12 rfl) rfl rfl ?_
  refine wp_aload_n hX (dk DX11_block 13 rfl) rfl ?_
  refine w_geti hX flX11_120 (dk DX11_block 14 rfl) (by decide) rfl ?_
  rw [hm]
  refine wp_iload_n hX (dk DX11_block 15 rfl) rfl ?_
  refine w_iast (j := _) hX (dk DX11_block 16 rfl) rfl rfl (show _ < 6 by omega) ?_
  refine wp_aload_n hX (dk DX11_block 17 rfl) rfl ?_
  refine w_getr hX flX11_27 (dk DX11_block 18 rfl) rfl rfl ?_
  refine wp_aload_n hX (dk DX11_block 19 rfl) rfl ?_
  refine w_geti hX flX11_120 (dk DX11_block 20 rfl) (by decide) rfl ?_
  rw [show u2 f 86 m x 81 5 = nI m from hm]
  refine wp_iconst (v := 0) hX (dk DX11_block 21 rfl) (by decide) ?_
  refine w_iast (j := _) hX (dk DX11_block 22 rfl) rfl rfl (show _ < 6 by omega) ?_
  refine wp_aload_n hX (dk DX11_block 23 rfl) rfl ?_
  refine wp_dup hX (dk DX11_block 24 rfl) rfl ?_
  refine w_geti hX flX11_120 (dk DX11_block 25 rfl) (by decide) rfl ?_
  rw [show u2 (u2 f 86 m x) 87 m 0 81 5 = nI m from hm]
  refine wp_dup_x1 hX (dk DX11_block 26 rfl) rfl rfl ?_
  refine wp_iconst (v := 1) hX (dk DX11_block 27 rfl) (by decide) ?_
  refine wp_iadd hX (dk DX11_block 28 rfl) ?_
  rw [nI_1]
  refine w_puti hX fpX11_120 (dk DX11_block 29 rfl) rfl ?_
  exact wp_ireturn hX hR (dk DX11_block 30 rfl) rfl (Nat.le_refl _) (Nat.le_refl _) (⟨rfl, rfl⟩)
theorem k_mget (d : Nat) (sw : Bool) (f : Nat → Nat → Int32) (g : Nat → Nat → Int64) (i w : Nat) (hi : i < 10) (hw : w < 3) : CT d 0 0 iX11_get [.ref 81, .int (nI i), .int (nI w)] (S sw f g) (QR (some (.int (f (83 + w) i))) (S sw f g)) := by
  have hw3 : w = 0 ∨ w = 1 ∨ w = 2 := by omega
  refine CT.of rfl (Nat.le_of_ble_eq_true rfl) (fun X hX hR hN _ => ?_)
  have hX : Good X RX11 cX11_get d 0 0 := hX
  have hN : x_nl X = 3 := hN
  show WP X 0 0 0 [_, _, _] [] _
  rcases hw3 with rfl | rfl | rfl
  · refine wp_iload_n hX (dk DX11_get 0 rfl) rfl ?_
    refine wp_if_ne (tgt := 13) hX (dk DX11_get 1 rfl) (by decide) (fun h_ => absurd (rfl) h_) (fun _ => ?_)
    refine wp_aload_n hX (dk DX11_get 2 rfl) rfl ?_
    refine w_getr hX flX11_15 (dk DX11_get 3 rfl) rfl rfl ?_
    refine wp_iload_n hX (dk DX11_get 4 rfl) rfl ?_
    refine w_iald (j := _) hX (dk DX11_get 5 rfl) rfl rfl (show _ < 10 by omega) ?_
    refine wp_goto (tgt := 33) hX (dk DX11_get 6 rfl) (by decide) ?_
    exact wp_ireturn hX hR (dk DX11_get 19 rfl) rfl (Nat.le_refl _) (Nat.le_refl _) (⟨rfl, rfl⟩)
  · refine wp_iload_n hX (dk DX11_get 0 rfl) rfl ?_
    refine wp_if_ne (tgt := 13) hX (dk DX11_get 1 rfl) (by decide) (fun _ => ?_) (fun h_ => absurd h_ (by decide))
    refine wp_iload_n hX (dk DX11_get 7 rfl) rfl ?_
    refine wp_iconst (v := 1) hX (dk DX11_get 8 rfl) (by decide) ?_
    refine wp_icmp_ne (tgt := 27) hX (dk DX11_get 9 rfl) (by decide) (fun h_ => absurd (rfl) h_) (fun _ => ?_)
    refine wp_aload_n hX (dk DX11_get 10 rfl) rfl ?_
    refine w_getr hX flX11_18 (dk DX11_get 11 rfl) rfl rfl ?_
    refine wp_iload_n hX (dk DX11_get 12 rfl) rfl ?_
    refine w_iald (j := _) hX (dk DX11_get 13 rfl) rfl rfl (show _ < 10 by omega) ?_
    refine wp_goto (tgt := 33) hX (dk DX11_get 14 rfl) (by decide) ?_
    exact wp_ireturn hX hR (dk DX11_get 19 rfl) rfl (Nat.le_refl _) (Nat.le_refl _) (⟨rfl, rfl⟩)
  · refine wp_iload_n hX (dk DX11_get 0 rfl) rfl ?_
    refine wp_if_ne (tgt := 13) hX (dk DX11_get 1 rfl) (by decide) (fun _ => ?_) (fun h_ => absurd h_ (by decide))
    refine wp_iload_n hX (dk DX11_get 7 rfl) rfl ?_
    refine wp_iconst (v := 1) hX (dk DX11_get 8 rfl) (by decide) ?_
    refine wp_icmp_ne (tgt := 27) hX (dk DX11_get 9 rfl) (by decide) (fun _ => ?_) (fun h_ => absurd h_ (by decide))
    refine wp_aload_n hX (dk DX11_get 15 rfl) rfl ?_
    refine w_getr hX flX11_21 (dk DX11_get 16 rfl) rfl rfl ?_
    refine wp_iload_n hX (dk DX11_get 17 rfl) rfl ?_
    refine w_iald (j := _) hX (dk DX11_get 18 rfl) rfl rfl (show _ < 10 by omega) ?_
    exact wp_ireturn hX hR (dk DX11_get 19 rfl) rfl (Nat.le_refl _) (Nat.le_refl _) (⟨rfl, rfl⟩)
theorem k_mbec (d : Nat) (sw : Bool) (f : Nat → Nat → Int32) (g : Nat → Nat → Int64) (i w : Nat) (v : Int32) (hi : i < 10) (hw : w < 3) : CT d 0 0 iX11_becomes [.ref 81, .int (nI i), .int (nI w), .int v] (S sw f g) (QR none (S sw (u2 f (83 + w) i v) g)) := by
  have hw3 : w = 0 ∨ w = 1 ∨ w = 2 := by omega
  refine CT.of rfl (Nat.le_of_ble_eq_true rfl) (fun X hX hR hN _ => ?_)
  have hX : Good X RX11 cX11_becomes d 0 0 := hX
  have hN : x_nl X = 4 := hN
  show WP X 0 0 0 [_, _, _, _] [] _
  rcases hw3 with rfl | rfl | rfl
  · refine wp_iload_n hX (dk DX11_becomes 0 rfl) rfl ?_
    refine wp_if_ne (tgt := 14) hX (dk DX11_becomes 1 rfl) (by decide) (fun h_ => absurd (rfl) h_) (fun _ => ?_)
    refine wp_aload_n hX (dk DX11_becomes 2 rfl) rfl ?_
    refine w_getr hX flX11_15 (dk DX11_becomes 3 rfl) rfl rfl ?_
    refine wp_iload_n hX (dk DX11_becomes 4 rfl) rfl ?_
    refine wp_iload_n hX (dk DX11_becomes 5 rfl) rfl ?_
    refine w_iast (j := _) hX (dk DX11_becomes 6 rfl) rfl rfl (show _ < 10 by omega) ?_
    refine wp_goto (tgt := 36) hX (dk DX11_becomes 7 rfl) (by decide) ?_
    exact wp_return hX hR (dk DX11_becomes 22 rfl) (Nat.le_refl _) (Nat.le_refl _) (⟨rfl, rfl⟩)
  · refine wp_iload_n hX (dk DX11_becomes 0 rfl) rfl ?_
    refine wp_if_ne (tgt := 14) hX (dk DX11_becomes 1 rfl) (by decide) (fun _ => ?_) (fun h_ => absurd h_ (by decide))
    refine wp_iload_n hX (dk DX11_becomes 8 rfl) rfl ?_
    refine wp_iconst (v := 1) hX (dk DX11_becomes 9 rfl) (by decide) ?_
    refine wp_icmp_ne (tgt := 29) hX (dk DX11_becomes 10 rfl) (by decide) (fun h_ => absurd (rfl) h_) (fun _ => ?_)
    refine wp_aload_n hX (dk DX11_becomes 11 rfl) rfl ?_
    refine w_getr hX flX11_18 (dk DX11_becomes 12 rfl) rfl rfl ?_
    refine wp_iload_n hX (dk DX11_becomes 13 rfl) rfl ?_
    refine wp_iload_n hX (dk DX11_becomes 14 rfl) rfl ?_
    refine w_iast (j := _) hX (dk DX11_becomes 15 rfl) rfl rfl (show _ < 10 by omega) ?_
    refine wp_goto (tgt := 36) hX (dk DX11_becomes 16 rfl) (by decide) ?_
    exact wp_return hX hR (dk DX11_becomes 22 rfl) (Nat.le_refl _) (Nat.le_refl _) (⟨rfl, rfl⟩)
  · refine wp_iload_n hX (dk DX11_becomes 0 rfl) rfl ?_
    refine wp_if_ne (tgt := 14) hX (dk DX11_becomes 1 rfl) (by decide) (fun _ => ?_) (fun h_ => absurd h_ (by decide))
    refine wp_iload_n hX (dk DX11_becomes 8 rfl) rfl ?_
    refine wp_iconst (v := 1) hX (dk DX11_becomes 9 rfl) (by decide) ?_
    refine wp_icmp_ne (tgt := 29) hX (dk DX11_becomes 10 rfl) (by decide) (fun _ => ?_) (fun h_ => absurd h_ (by decide))
    refine wp_aload_n hX (dk DX11_becomes 17 rfl) rfl ?_
    refine w_getr hX flX11_21 (dk DX11_becomes 18 rfl) rfl rfl ?_
    refine wp_iload_n hX (dk DX11_becomes 19 rfl) rfl ?_
    refine wp_iload_n hX (dk DX11_becomes 20 rfl) rfl ?_
    refine w_iast (j := _) hX (dk DX11_becomes 21 rfl) rfl rfl (show _ < 10 by omega) ?_
    exact wp_return hX hR (dk DX11_becomes 22 rfl) (Nat.le_refl _) (Nat.le_refl _) (⟨rfl, rfl⟩)
/-- what a trait can be at most, as the reference asks it -/
theorem most_w (w : Nat) (hw : w < 3) : (if w = 0 then (999 : Int32) else if w = 1 then 9 else 99) = nI (mosN w) := by
  have hw3 : w = 0 ∨ w = 1 ∨ w = 2 := by omega
  rcases hw3 with rfl | rfl | rfl <;> rfl
/-- a change is kept -/
def mch (f : Nat → Nat → Int32) (q : Nat) (x y z u : Int32) : Nat → Nat → Int32 := u2 (u2 (u2 (u2 (u2 (u2 f 103 (4 * q) x) 103 (4 * q + 1) y) 103 (4 * q + 2) z) 103 (4 * q + 3) u) 81 35 (nI (q + 1))) 81 34 (nI (q + 1))
/-- the changes move up by one -/
def mup (r : Nat → Int32) (k : Nat) : Nat → Int32 := fun j => if j < k then r (j + 4) else r j
theorem u_mend0 (d : Nat) (sw : Bool) (f : Nat → Nat → Int32) (g : Nat → Nat → Int64) (n : Nat) (x y v : Int32) (hn : f 81 0 = nI n) (hn10 : n ≤ 10) (h : ¬ mdG n x y v) : CT (d + 110) 0 0 iX11_mend [.ref 81, .int x, .int y, .int v] (S sw f g) (rdM g f (-1)) := by
  refine CT.rdM ?_
  refine CT.of rfl (Nat.le_of_ble_eq_true rfl) (fun X hX hR hN _ => ?_)
  have hX : Good X RX11 cX11_mend (d + 110) 0 0 := hX
  have hN : x_nl X = 6 := hN
  show WP X 0 0 0 [_, _, _, _, _, _] [] _
  by_cases c1 : ∃ i, i < n ∧ x = nI i
  · obtain ⟨i, hi, rfl⟩ := c1
    by_cases c2 : ∃ w, w ≤ 2 ∧ y = nI w
    · obtain ⟨w, hw, rfl⟩ := c2
      have no : ¬ ∃ u, u ≤ mosN w ∧ v = nI u := fun ⟨u, h1, h2⟩ => h ⟨i, w, u, hi, by omega, h1, rfl, rfl, h2⟩
      have hw3 : w = 0 ∨ w = 1 ∨ w = 2 := by omega
      refine wp_aload_n hX (dk DX11_mend 0 rfl) rfl ?_
      refine wp_iload_n hX (dk DX11_mend 1 rfl) rfl ?_
      refine w_callV (As := [_]) lkX11_127 hX (dk DX11_mend 2 rfl) rfl rfl (by decide) hN (k_mF1 (d + 108) sw f g n i hn hn10 hi) ?_
      show WP _ _ _ 5 [_, _, _, _, _, _] [_] _
      refine wp_if_eq (tgt := 47) hX (dk DX11_mend 3 rfl) (by decide) (fun h_ => absurd h_ ((by decide))) (fun _ => ?_)
      refine wp_iload_n hX (dk DX11_mend 4 rfl) rfl ?_
      refine wp_iconst (v := 0) hX (dk DX11_mend 5 rfl) (by decide) ?_
      refine wp_iconst (v := 2) hX (dk DX11_mend 6 rfl) (by decide) ?_
      refine w_callS (As := [_, _, _]) lkX11_116 hX (dk DX11_mend 7 rfl) rfl (by decide) (k_wi1 (d + 109) w 2 2 _ rfl (by decide) hw) ?_
      show WP _ _ _ 14 [_, _, _, _, _, _] [_] _
      refine wp_if_eq (tgt := 47) hX (dk DX11_mend 8 rfl) (by decide) (fun h_ => absurd h_ ((by decide))) (fun _ => ?_)
      rcases hw3 with rfl | rfl | rfl
      · refine wp_iload_n hX (dk DX11_mend 9 rfl) rfl ?_
        refine wp_iconst (v := 0) hX (dk DX11_mend 10 rfl) (by decide) ?_
        refine wp_iload_n hX (dk DX11_mend 11 rfl) rfl ?_
        refine wp_if_ne (tgt := 29) hX (dk DX11_mend 12 rfl) (by decide) (fun h_ => absurd (rfl) h_) (fun _ => ?_)
        refine wp_sipush (v := 999) hX (dk DX11_mend 13 rfl) (by decide) ?_
        refine wp_goto (tgt := 41) hX (dk DX11_mend 14 rfl) (by decide) ?_
        refine w_callS (As := [_, _, _]) lkX11_116 hX (dk DX11_mend 21 rfl) rfl (by decide) (k_wi0 (d + 109) 999 v 999 _ rfl (by decide) no) ?_
        show WP _ _ _ 44 [_, _, _, _, _, _] [_] _
        refine wp_if_ne (tgt := 49) hX (dk DX11_mend 22 rfl) (by decide) (fun h_ => absurd (rfl) h_) (fun _ => ?_)
        refine wp_iconst (v := -1) hX (dk DX11_mend 23 rfl) (by decide) ?_
        exact wp_ireturn hX hR (dk DX11_mend 24 rfl) rfl (Nat.le_refl _) (Nat.le_refl _) (⟨rfl, rfl⟩)
      · refine wp_iload_n hX (dk DX11_mend 9 rfl) rfl ?_
        refine wp_iconst (v := 0) hX (dk DX11_mend 10 rfl) (by decide) ?_
        refine wp_iload_n hX (dk DX11_mend 11 rfl) rfl ?_
        refine wp_if_ne (tgt := 29) hX (dk DX11_mend 12 rfl) (by decide) (fun _ => ?_) (fun h_ => absurd h_ (by decide))
        refine wp_iload_n hX (dk DX11_mend 15 rfl) rfl ?_
        refine wp_iconst (v := 1) hX (dk DX11_mend 16 rfl) (by decide) ?_
        refine wp_icmp_ne (tgt := 39) hX (dk DX11_mend 17 rfl) (by decide) (fun h_ => absurd (rfl) h_) (fun _ => ?_)
        refine wp_bipush (v := 9) hX (dk DX11_mend 18 rfl) (by decide) ?_
        refine wp_goto (tgt := 41) hX (dk DX11_mend 19 rfl) (by decide) ?_
        refine w_callS (As := [_, _, _]) lkX11_116 hX (dk DX11_mend 21 rfl) rfl (by decide) (k_wi0 (d + 109) 9 v 9 _ rfl (by decide) no) ?_
        show WP _ _ _ 44 [_, _, _, _, _, _] [_] _
        refine wp_if_ne (tgt := 49) hX (dk DX11_mend 22 rfl) (by decide) (fun h_ => absurd (rfl) h_) (fun _ => ?_)
        refine wp_iconst (v := -1) hX (dk DX11_mend 23 rfl) (by decide) ?_
        exact wp_ireturn hX hR (dk DX11_mend 24 rfl) rfl (Nat.le_refl _) (Nat.le_refl _) (⟨rfl, rfl⟩)
      · refine wp_iload_n hX (dk DX11_mend 9 rfl) rfl ?_
        refine wp_iconst (v := 0) hX (dk DX11_mend 10 rfl) (by decide) ?_
        refine wp_iload_n hX (dk DX11_mend 11 rfl) rfl ?_
        refine wp_if_ne (tgt := 29) hX (dk DX11_mend 12 rfl) (by decide) (fun _ => ?_) (fun h_ => absurd h_ (by decide))
        refine wp_iload_n hX (dk DX11_mend 15 rfl) rfl ?_
        refine wp_iconst (v := 1) hX (dk DX11_mend 16 rfl) (by decide) ?_
        refine wp_icmp_ne (tgt := 39) hX (dk DX11_mend 17 rfl) (by decide) (fun _ => ?_) (fun h_ => absurd h_ (by decide))
        refine wp_bipush (v := 99) hX (dk DX11_mend 20 rfl) (by decide) ?_
        refine w_callS (As := [_, _, _]) lkX11_116 hX (dk DX11_mend 21 rfl) rfl (by decide) (k_wi0 (d + 109) 99 v 99 _ rfl (by decide) no) ?_
        show WP _ _ _ 44 [_, _, _, _, _, _] [_] _
        refine wp_if_ne (tgt := 49) hX (dk DX11_mend 22 rfl) (by decide) (fun h_ => absurd (rfl) h_) (fun _ => ?_)
        refine wp_iconst (v := -1) hX (dk DX11_mend 23 rfl) (by decide) ?_
        exact wp_ireturn hX hR (dk DX11_mend 24 rfl) rfl (Nat.le_refl _) (Nat.le_refl _) (⟨rfl, rfl⟩)
    · refine wp_aload_n hX (dk DX11_mend 0 rfl) rfl ?_
      refine wp_iload_n hX (dk DX11_mend 1 rfl) rfl ?_
      refine w_callV (As := [_]) lkX11_127 hX (dk DX11_mend 2 rfl) rfl rfl (by decide) hN (k_mF1 (d + 108) sw f g n i hn hn10 hi) ?_
      show WP _ _ _ 5 [_, _, _, _, _, _] [_] _
      refine wp_if_eq (tgt := 47) hX (dk DX11_mend 3 rfl) (by decide) (fun h_ => absurd h_ (by decide)) (fun _ => ?_)
      refine wp_iload_n hX (dk DX11_mend 4 rfl) rfl ?_
      refine wp_iconst (v := 0) hX (dk DX11_mend 5 rfl) (by decide) ?_
      refine wp_iconst (v := 2) hX (dk DX11_mend 6 rfl) (by decide) ?_
      refine w_callS (As := [_, _, _]) lkX11_116 hX (dk DX11_mend 7 rfl) rfl (by decide) (k_wi0 (d + 109) 2 y 2 _ rfl (by decide) c2) ?_
      show WP _ _ _ 14 [_, _, _, _, _, _] [_] _
      refine wp_if_eq (tgt := 47) hX (dk DX11_mend 8 rfl) (by decide) (fun _ => ?_) (fun h_ => absurd (rfl) h_)
      refine wp_iconst (v := -1) hX (dk DX11_mend 23 rfl) (by decide) ?_
      exact wp_ireturn hX hR (dk DX11_mend 24 rfl) rfl (Nat.le_refl _) (Nat.le_refl _) (⟨rfl, rfl⟩)
  · refine wp_aload_n hX (dk DX11_mend 0 rfl) rfl ?_
    refine wp_iload_n hX (dk DX11_mend 1 rfl) rfl ?_
    refine w_callV (As := [_]) lkX11_127 hX (dk DX11_mend 2 rfl) rfl rfl (by decide) hN (k_mF0 (d + 108) sw f g n x hn hn10 c1) ?_
    show WP _ _ _ 5 [_, _, _, _, _, _] [_] _
    refine wp_if_eq (tgt := 47) hX (dk DX11_mend 3 rfl) (by decide) (fun _ => ?_) (fun h_ => absurd (rfl) h_)
    refine wp_iconst (v := -1) hX (dk DX11_mend 23 rfl) (by decide) ?_
    exact wp_ireturn hX hR (dk DX11_mend 24 rfl) rfl (Nat.le_refl _) (Nat.le_refl _) (⟨rfl, rfl⟩)
/-- mend: past the ranges -/
theorem k_mmend (X : cxT) (d : Nat) (sw : Bool) (f : Nat → Nat → Int32) (g : Nat → Nat → Int64) (n i w u : Nat) (hX : Good X RX11 cX11_mend (d + 110) 0 0) (hN : x_nl X = 6) (hn : f 81 0 = nI n) (hn10 : n ≤ 10) (hi : i < n) (hw : w < 3) (hu : u ≤ mosN w) (k : WP X 0 0 57 [some (.ref 81), some (.int (nI i)), some (.int (nI w)), some (.int (nI u)), some (.int (f (83 + w) i)), none] [] (S sw f g)) : WP X 0 0 0 [some (.ref 81), some (.int (nI i)), some (.int (nI w)), some (.int (nI u)), none, none] [] (S sw f g) := by
  have hw3 : w = 0 ∨ w = 1 ∨ w = 2 := by omega
  refine wp_aload_n hX (dk DX11_mend 0 rfl) rfl ?_
  refine wp_iload_n hX (dk DX11_mend 1 rfl) rfl ?_
  refine w_callV (As := [_]) lkX11_127 hX (dk DX11_mend 2 rfl) rfl rfl (by decide) hN (k_mF1 (d + 108) sw f g n i hn hn10 hi) ?_
  show WP _ _ _ 5 [_, _, _, _, _, _] [_] _
  refine wp_if_eq (tgt := 47) hX (dk DX11_mend 3 rfl) (by decide) (fun h_ => absurd h_ ((by decide))) (fun _ => ?_)
  refine wp_iload_n hX (dk DX11_mend 4 rfl) rfl ?_
  refine wp_iconst (v := 0) hX (dk DX11_mend 5 rfl) (by decide) ?_
  refine wp_iconst (v := 2) hX (dk DX11_mend 6 rfl) (by decide) ?_
  refine w_callS (As := [_, _, _]) lkX11_116 hX (dk DX11_mend 7 rfl) rfl (by decide) (k_wi1 (d + 109) w 2 2 _ rfl (by decide) (by omega)) ?_
  show WP _ _ _ 14 [_, _, _, _, _, _] [_] _
  refine wp_if_eq (tgt := 47) hX (dk DX11_mend 8 rfl) (by decide) (fun h_ => absurd h_ ((by decide))) (fun _ => ?_)
  rcases hw3 with rfl | rfl | rfl
  · refine wp_iload_n hX (dk DX11_mend 9 rfl) rfl ?_
    refine wp_iconst (v := 0) hX (dk DX11_mend 10 rfl) (by decide) ?_
    refine wp_iload_n hX (dk DX11_mend 11 rfl) rfl ?_
    refine wp_if_ne (tgt := 29) hX (dk DX11_mend 12 rfl) (by decide) (fun h_ => absurd (rfl) h_) (fun _ => ?_)
    refine wp_sipush (v := 999) hX (dk DX11_mend 13 rfl) (by decide) ?_
    refine wp_goto (tgt := 41) hX (dk DX11_mend 14 rfl) (by decide) ?_
    refine w_callS (As := [_, _, _]) lkX11_116 hX (dk DX11_mend 21 rfl) rfl (by decide) (k_wi1 (d + 109) u 999 999 _ rfl (by decide) hu) ?_
    show WP _ _ _ 44 [_, _, _, _, _, _] [_] _
    refine wp_if_ne (tgt := 49) hX (dk DX11_mend 22 rfl) (by decide) (fun _ => ?_) (fun h_ => absurd h_ (by decide))
    refine wp_aload_n hX (dk DX11_mend 25 rfl) rfl ?_
    refine wp_iload_n hX (dk DX11_mend 26 rfl) rfl ?_
    refine wp_iload_n hX (dk DX11_mend 27 rfl) rfl ?_
    refine w_callV (As := [_, _]) lkX11_179 hX (dk DX11_mend 28 rfl) rfl rfl (by decide) hN (k_mget (d + 109) sw f g i 0 (by omega) hw) ?_
    show WP _ _ _ 55 [_, _, _, _, _, _] [_] _
    refine wp_istore hX (dk DX11_mend 29 rfl) rfl hN (Nat.le_of_ble_eq_true rfl) ?_
    show WP _ _ _ 57 [_, _, _, _, _, _] [] _
    exact k
  · refine wp_iload_n hX (dk DX11_mend 9 rfl) rfl ?_
    refine wp_iconst (v := 0) hX (dk DX11_mend 10 rfl) (by decide) ?_
    refine wp_iload_n hX (dk DX11_mend 11 rfl) rfl ?_
    refine wp_if_ne (tgt := 29) hX (dk DX11_mend 12 rfl) (by decide) (fun _ => ?_) (fun h_ => absurd h_ (by decide))
    refine wp_iload_n hX (dk DX11_mend 15 rfl) rfl ?_
    refine wp_iconst (v := 1) hX (dk DX11_mend 16 rfl) (by decide) ?_
    refine wp_icmp_ne (tgt := 39) hX (dk DX11_mend 17 rfl) (by decide) (fun h_ => absurd (rfl) h_) (fun _ => ?_)
    refine wp_bipush (v := 9) hX (dk DX11_mend 18 rfl) (by decide) ?_
    refine wp_goto (tgt := 41) hX (dk DX11_mend 19 rfl) (by decide) ?_
    refine w_callS (As := [_, _, _]) lkX11_116 hX (dk DX11_mend 21 rfl) rfl (by decide) (k_wi1 (d + 109) u 9 9 _ rfl (by decide) hu) ?_
    show WP _ _ _ 44 [_, _, _, _, _, _] [_] _
    refine wp_if_ne (tgt := 49) hX (dk DX11_mend 22 rfl) (by decide) (fun _ => ?_) (fun h_ => absurd h_ (by decide))
    refine wp_aload_n hX (dk DX11_mend 25 rfl) rfl ?_
    refine wp_iload_n hX (dk DX11_mend 26 rfl) rfl ?_
    refine wp_iload_n hX (dk DX11_mend 27 rfl) rfl ?_
    refine w_callV (As := [_, _]) lkX11_179 hX (dk DX11_mend 28 rfl) rfl rfl (by decide) hN (k_mget (d + 109) sw f g i 1 (by omega) hw) ?_
    show WP _ _ _ 55 [_, _, _, _, _, _] [_] _
    refine wp_istore hX (dk DX11_mend 29 rfl) rfl hN (Nat.le_of_ble_eq_true rfl) ?_
    show WP _ _ _ 57 [_, _, _, _, _, _] [] _
    exact k
  · refine wp_iload_n hX (dk DX11_mend 9 rfl) rfl ?_
    refine wp_iconst (v := 0) hX (dk DX11_mend 10 rfl) (by decide) ?_
    refine wp_iload_n hX (dk DX11_mend 11 rfl) rfl ?_
    refine wp_if_ne (tgt := 29) hX (dk DX11_mend 12 rfl) (by decide) (fun _ => ?_) (fun h_ => absurd h_ (by decide))
    refine wp_iload_n hX (dk DX11_mend 15 rfl) rfl ?_
    refine wp_iconst (v := 1) hX (dk DX11_mend 16 rfl) (by decide) ?_
    refine wp_icmp_ne (tgt := 39) hX (dk DX11_mend 17 rfl) (by decide) (fun _ => ?_) (fun h_ => absurd h_ (by decide))
    refine wp_bipush (v := 99) hX (dk DX11_mend 20 rfl) (by decide) ?_
    refine w_callS (As := [_, _, _]) lkX11_116 hX (dk DX11_mend 21 rfl) rfl (by decide) (k_wi1 (d + 109) u 99 99 _ rfl (by decide) hu) ?_
    show WP _ _ _ 44 [_, _, _, _, _, _] [_] _
    refine wp_if_ne (tgt := 49) hX (dk DX11_mend 22 rfl) (by decide) (fun _ => ?_) (fun h_ => absurd h_ (by decide))
    refine wp_aload_n hX (dk DX11_mend 25 rfl) rfl ?_
    refine wp_iload_n hX (dk DX11_mend 26 rfl) rfl ?_
    refine wp_iload_n hX (dk DX11_mend 27 rfl) rfl ?_
    refine w_callV (As := [_, _]) lkX11_179 hX (dk DX11_mend 28 rfl) rfl rfl (by decide) hN (k_mget (d + 109) sw f g i 2 (by omega) hw) ?_
    show WP _ _ _ 55 [_, _, _, _, _, _] [_] _
    refine wp_istore hX (dk DX11_mend 29 rfl) rfl hN (Nat.le_of_ble_eq_true rfl) ?_
    show WP _ _ _ 57 [_, _, _, _, _, _] [] _
    exact k
theorem u_mendS (d : Nat) (sw : Bool) (f : Nat → Nat → Int32) (g : Nat → Nat → Int64) (n i w u : Nat) (hn : f 81 0 = nI n) (hn10 : n ≤ 10) (hi : i < n) (hw : w < 3) (hu : u ≤ mosN w) (he : f (83 + w) i = nI u) : CT (d + 110) 0 0 iX11_mend [.ref 81, .int (nI i), .int (nI w), .int (nI u)] (S sw f g) (rdM g f (nI u)) := by
  refine CT.rdM ?_
  refine CT.of rfl (Nat.le_of_ble_eq_true rfl) (fun X hX hR hN _ => ?_)
  have hX : Good X RX11 cX11_mend (d + 110) 0 0 := hX
  have hN : x_nl X = 6 := hN
  show WP X 0 0 0 [_, _, _, _, _, _] [] _
  refine k_mmend X d sw f g n i w u hX hN hn hn10 hi hw hu ?_
  rw [he]
  refine wp_iload hX (dk DX11_mend 30 rfl) rfl ?_
  refine wp_iload_n hX (dk DX11_mend 31 rfl) rfl ?_
  refine wp_icmp_ne (tgt := 66) hX (dk DX11_mend 32 rfl) (by decide) (fun h_ => absurd (rfl) h_) (fun _ => ?_)
  refine wp_iload hX (dk DX11_mend 33 rfl) rfl ?_
  exact wp_ireturn hX hR (dk DX11_mend 34 rfl) rfl (Nat.le_refl _) (Nat.le_refl _) (⟨rfl, rfl⟩)
/-- mend: behind the change of the trait -/
theorem k_mkeep (X : cxT) (d : Nat) (sw : Bool) (f : Nat → Nat → Int32) (g : Nat → Nat → Int64) (Q : Option Value → mM → Prop) (q : Nat) (x y z u : Int32) (z5 : Option Value) (hX : Good X RX11 cX11_mend (d + 110) 0 0) (hN : x_nl X = 6) (hR : RQ X (some .int) 0 0 Q) (hq : f 81 35 = nI q) (hq40 : q < 40) (k : Q (some (.int z)) (S sw (mch f q x y z u) g)) : WP X 0 0 125 [some (.ref 81), some (.int x), some (.int y), some (.int u), some (.int z), z5] [] (S sw f g) := by
  have e0 : (4 : Int32) * nI q = nI (4 * q) := by rw [show (4 : Int32) = nI 4 from rfl, pk_mul]
  refine wp_aload_n hX (dk DX11_mend_1 7 rfl) rfl ?_
  refine w_getr hX flX11_75 (dk DX11_mend_1 8 rfl) rfl rfl ?_
  refine wp_iconst (v := 4) hX (dk DX11_mend_1 9 rfl) (by decide) ?_
  refine wp_aload_n hX (dk DX11_mend_1 10 rfl) rfl ?_
  refine w_geti hX flX11_186 (dk DX11_mend_1 11 rfl) (by decide) rfl ?_
  rw [hq]
  refine wp_imul hX (dk DX11_mend_1 12 rfl) ?_
  rw [e0]
  refine wp_iload_n hX (dk DX11_mend_1 13 rfl) rfl ?_
  refine w_iast (j := _) hX (dk DX11_mend_1 14 rfl) rfl rfl (show _ < 160 by omega) ?_
  refine wp_aload_n hX (dk DX11_mend_1 15 rfl) rfl ?_
  refine w_getr hX flX11_75 (dk DX11_mend_1 16 rfl) rfl rfl ?_
  refine wp_iconst (v := 4) hX (dk DX11_mend_1 17 rfl) (by decide) ?_
  refine wp_aload_n hX (dk DX11_mend_1 18 rfl) rfl ?_
  refine w_geti hX flX11_186 (dk DX11_mend_1 19 rfl) (by decide) rfl ?_
  rw [show u2 f 103 (4 * q) x 81 35 = nI q from hq]
  refine wp_imul hX (dk DX11_mend_1 20 rfl) ?_
  rw [e0]
  refine wp_iconst (v := 1) hX (dk DX11_mend_1 21 rfl) (by decide) ?_
  refine wp_iadd hX (dk DX11_mend_1 22 rfl) ?_
  rw [show nI (4 * q) + 1 = nI (4 * q + 1) from nI_1 _]
  refine wp_iload_n hX (dk DX11_mend_1 23 rfl) rfl ?_
  refine w_iast (j := _) hX (dk DX11_mend_1 24 rfl) rfl rfl (show _ < 160 by omega) ?_
  refine wp_aload_n hX (dk DX11_mend_1 25 rfl) rfl ?_
  refine w_getr hX flX11_75 (dk DX11_mend_1 26 rfl) rfl rfl ?_
  refine wp_iconst (v := 4) hX (dk DX11_mend_1 27 rfl) (by decide) ?_
  refine wp_aload_n hX (dk DX11_mend_1 28 rfl) rfl ?_
  refine w_geti hX flX11_186 (dk DX11_mend_1 29 rfl) (by decide) rfl ?_
  rw [show u2 (u2 f 103 (4 * q) x) 103 (4 * q + 1) y 81 35 = nI q from hq]
  refine wp_imul hX (dk DX11_mend_1 30 rfl) ?_
  rw [e0]
  refine wp_iconst (v := 2) hX (dk DX11_mend_1 31 rfl) (by decide) ?_
  refine wp_iadd hX (dk DX11_mend_1 32 rfl) ?_
  rw [show nI (4 * q) + 2 = nI (4 * q + 2) by rw [show (2 : Int32) = nI 2 from rfl, nI_add]]
  refine wp_iload hX (dk DX11_mend_1 33 rfl) rfl ?_
  refine w_iast (j := _) hX (dk DX11_mend_1 34 rfl) rfl rfl (show _ < 160 by omega) ?_
  refine wp_aload_n hX (dk DX11_mend_1 35 rfl) rfl ?_
  refine w_getr hX flX11_75 (dk DX11_mend_1 36 rfl) rfl rfl ?_
  refine wp_iconst (v := 4) hX (dk DX11_mend_1 37 rfl) (by decide) ?_
  refine wp_aload_n hX (dk DX11_mend_1 38 rfl) rfl ?_
  refine w_geti hX flX11_186 (dk DX11_mend_1 39 rfl) (by decide) rfl ?_
  rw [show u2 (u2 (u2 f 103 (4 * q) x) 103 (4 * q + 1) y) 103 (4 * q + 2) z 81 35 = nI q from hq]
  refine wp_imul hX (dk DX11_mend_1 40 rfl) ?_
  rw [e0]
  refine wp_iconst (v := 3) hX (dk DX11_mend_1 41 rfl) (by decide) ?_
  refine wp_iadd hX (dk DX11_mend_1 42 rfl) ?_
  rw [show nI (4 * q) + 3 = nI (4 * q + 3) by rw [show (3 : Int32) = nI 3 from rfl, nI_add]]
  refine wp_iload_n hX (dk DX11_mend_1 43 rfl) rfl ?_
  refine w_iast (j := _) hX (dk DX11_mend_1 44 rfl) rfl rfl (show _ < 160 by omega) ?_
  refine wp_aload_n hX (dk DX11_mend_1 45 rfl) rfl ?_
  refine wp_dup hX (dk DX11_mend_1 46 rfl) rfl ?_
  refine w_geti hX flX11_186 (dk DX11_mend_1 47 rfl) (by decide) rfl ?_
  rw [show u2 (u2 (u2 (u2 f 103 (4 * q) x) 103 (4 * q + 1) y) 103 (4 * q + 2) z) 103 (4 * q + 3) u 81 35 = nI q from hq]
  refine wp_iconst (v := 1) hX (dk DX11_mend_1 48 rfl) (by decide) ?_
  refine wp_iadd hX (dk DX11_mend_1 49 rfl) ?_
  rw [nI_1]
  refine w_puti hX fpX11_186 (dk DX11_mend_1 50 rfl) rfl ?_
  refine wp_aload_n hX (dk DX11_mend_1 51 rfl) rfl ?_
  refine wp_aload_n hX (dk DX11_mend_1 52 rfl) rfl ?_
  refine w_geti hX flX11_186 (dk DX11_mend_1 53 rfl) (by decide) rfl ?_
  rw [u2_at]
  refine w_puti hX fpX11_189 (dk DX11_mend_1 54 rfl) rfl ?_
  refine wp_iload hX (dk DX11_mend_1 55 rfl) rfl ?_
  exact wp_ireturn hX hR (dk DX11_mend_1 56 rfl) rfl (Nat.le_refl _) (Nat.le_refl _) (k)
theorem u_mend1 (d : Nat) (sw : Bool) (f : Nat → Nat → Int32) (g : Nat → Nat → Int64) (n i w u q : Nat) (hn : f 81 0 = nI n) (hn10 : n ≤ 10) (hi : i < n) (hw : w < 3) (hu : u ≤ mosN w) (he : ¬ f (83 + w) i = nI u) (hq : f 81 35 = nI q) (hq40 : q < 40) : CT (d + 110) 0 0 iX11_mend [.ref 81, .int (nI i), .int (nI w), .int (nI u)] (S sw f g) (QR (some (.int (f (83 + w) i))) (S sw (mch (u2 f (83 + w) i (nI u)) q (nI i) (nI w) (f (83 + w) i) (nI u)) g)) := by
  have e81 : u2 f (83 + w) i (nI u) 81 35 = nI q := by rw [u2_ne _ _ _ (by omega)]; exact hq
  refine CT.of rfl (Nat.le_of_ble_eq_true rfl) (fun X hX hR hN _ => ?_)
  have hX : Good X RX11 cX11_mend (d + 110) 0 0 := hX
  have hN : x_nl X = 6 := hN
  show WP X 0 0 0 [_, _, _, _, _, _] [] _
  refine k_mmend X d sw f g n i w u hX hN hn hn10 hi hw hu ?_
  refine wp_iload hX (dk DX11_mend 30 rfl) rfl ?_
  refine wp_iload_n hX (dk DX11_mend 31 rfl) rfl ?_
  refine wp_icmp_ne (tgt := 66) hX (dk DX11_mend 32 rfl) (by decide) (fun _ => ?_) (fun h_ => absurd h_ (he))
  refine wp_aload_n hX (dk DX11_mend 35 rfl) rfl ?_
  refine wp_iload_n hX (dk DX11_mend 36 rfl) rfl ?_
  refine wp_iload_n hX (dk DX11_mend 37 rfl) rfl ?_
  refine wp_iload_n hX (dk DX11_mend 38 rfl) rfl ?_
  refine w_callV (As := [_, _, _]) lkX11_182 hX (dk DX11_mend 39 rfl) rfl rfl (by decide) hN (k_mbec (d + 109) sw f g i w _ (by omega) hw) ?_
  show WP _ _ _ 73 [_, _, _, _, _, _] [] _
  refine wp_aload_n hX (dk DX11_mend 40 rfl) rfl ?_
  refine w_geti hX flX11_186 (dk DX11_mend 41 rfl) (by decide) rfl ?_
  refine wp_bipush (v := 40) hX (dk DX11_mend 42 rfl) (by decide) ?_
  rw [e81]
  refine wp_icmp_ne (tgt := 125) hX (dk DX11_mend 43 rfl) (by decide) (fun _ => ?_) (fun h_ => absurd h_ (fun e => by have := (nI_eq (b := 40) (by omega) (by decide)).mp e; omega))
  exact k_mkeep X d sw _ g _ q _ _ _ _ _ hX hN hR e81 hq40 ⟨rfl, rfl⟩
theorem u_mend40 (d : Nat) (sw : Bool) (f : Nat → Nat → Int32) (g : Nat → Nat → Int64) (n i w u : Nat) (hn : f 81 0 = nI n) (hn10 : n ≤ 10) (hi : i < n) (hw : w < 3) (hu : u ≤ mosN w) (he : ¬ f (83 + w) i = nI u) (hq : f 81 35 = nI 40) : CT (d + 110) 0 0 iX11_mend [.ref 81, .int (nI i), .int (nI w), .int (nI u)] (S sw f g) (QR (some (.int (f (83 + w) i))) (S sw (mch (u2 (u1 (u2 f (83 + w) i (nI u)) 103 (mup (f 103) 156)) 81 35 39) 39 (nI i) (nI w) (f (83 + w) i) (nI u)) g)) := by
  obtain ⟨f1, hf1⟩ : ∃ f1, f1 = u2 f (83 + w) i (nI u) := ⟨_, rfl⟩
  have e81 : f1 81 35 = nI 40 := by rw [hf1, u2_ne _ _ _ (by omega)]; exact hq
  have e103 : f1 103 = f 103 := by rw [hf1, u2_ne _ _ _ (by omega)]
  rw [← hf1]
  refine CT.of rfl (Nat.le_of_ble_eq_true rfl) (fun X hX hR hN _ => ?_)
  have hX : Good X RX11 cX11_mend (d + 110) 0 0 := hX
  have hN : x_nl X = 6 := hN
  show WP X 0 0 0 [_, _, _, _, _, _] [] _
  refine k_mmend X d sw f g n i w u hX hN hn hn10 hi hw hu ?_
  have u11 : ∀ (r : Nat → Int32) (k : Nat) (v : Int32), u2 (u1 f1 103 r) 103 k v = u1 f1 103 (fun j => if j = k then v else r j) := by
    intro r k v
    funext b j
    unfold u2 u1
    by_cases hb : b = 103
    · simp [hb]
    · simp [hb]
  have e00 : u1 f1 103 (mup (f 103) 0) = f1 := by
    funext b
    by_cases hb : b = 103
    · subst hb
      rw [u1_row, e103]
      funext j
      unfold mup
      rw [if_neg (by omega)]
    · rw [u1_ne _ _ hb]
  have lo : ∀ (m k : Nat), k + m = 156 → WP X 0 0 85 [some (.ref 81), some (.int (nI i)), some (.int (nI w)), some (.int (nI u)), some (.int (f (83 + w) i)), some (.int (nI k))] [] (S sw (u1 f1 103 (mup (f 103) k)) g) := by
    intro m
    induction m with
    | zero =>
      intro k hk
      obtain rfl : k = 156 := by omega
      refine wp_iload hX (dk DX11_mend 46 rfl) rfl ?_
      refine wp_sipush (v := 156) hX (dk DX11_mend 47 rfl) (by decide) ?_
      refine wp_icmp_ge (tgt := 115) hX (dk DX11_mend 48 rfl) (by decide) (fun _ => ?_) (fun h_ => absurd (by decide) h_)
      refine wp_aload_n hX (dk DX11_mend_1 1 rfl) rfl ?_
      refine wp_dup hX (dk DX11_mend_1 2 rfl) rfl ?_
      refine w_geti hX flX11_186 (dk DX11_mend_1 3 rfl) (by decide) rfl ?_
      refine wp_iconst (v := 1) hX (dk DX11_mend_1 4 rfl) (by decide) ?_
      rw [show u1 f1 103 (mup (f 103) 156) 81 35 = nI 40 from e81]
      refine wp_isub hX (dk DX11_mend_1 5 rfl) ?_
      rw [show nI 40 - 1 = 39 from rfl]
      refine w_puti hX fpX11_186 (dk DX11_mend_1 6 rfl) rfl ?_
      exact k_mkeep X d sw _ g _ 39 _ _ _ _ _ hX hN hR (u2_at _ _ _ _) (by decide) ⟨rfl, rfl⟩
    | succ m ih =>
      intro k hk
      refine wp_iload hX (dk DX11_mend 46 rfl) rfl ?_
      refine wp_sipush (v := 156) hX (dk DX11_mend 47 rfl) (by decide) ?_
      refine wp_icmp_ge (tgt := 115) hX (dk DX11_mend 48 rfl) (by decide) (fun h_ => absurd h_ ((nI_ge (b := 156) (by omega) (by omega)))) (fun _ => ?_)
      refine wp_aload_n hX (dk DX11_mend 49 rfl) rfl ?_
      refine w_getr hX flX11_75 (dk DX11_mend 50 rfl) rfl rfl ?_
      refine wp_iload hX (dk DX11_mend 51 rfl) rfl ?_
      refine wp_aload_n hX (dk DX11_mend 52 rfl) rfl ?_
      refine w_getr hX flX11_75 (dk DX11_mend 53 rfl) rfl rfl ?_
      refine wp_iload hX (dk DX11_mend 54 rfl) rfl ?_
      refine wp_iconst (v := 4) hX (dk DX11_mend 55 rfl) (by decide) ?_
      refine wp_iadd hX (dk DX11_mend 56 rfl) ?_
      rw [show nI k + 4 = nI (k + 4) by rw [show (4 : Int32) = nI 4 from rfl, nI_add]]
      refine w_iald (j := _) hX (dk DX11_mend 57 rfl) rfl rfl (show _ < 160 by omega) ?_
      refine w_iast (j := _) hX (dk DX11_mend 58 rfl) rfl rfl (show _ < 160 by omega) ?_
      rw [u1_row, u11, show (fun j => if j = k then mup (f 103) k (k + 4) else mup (f 103) k j) = mup (f 103) (k + 1) by
        funext j
        unfold mup
        by_cases cj : j = k
        · subst cj; rw [if_pos rfl, if_neg (by omega), if_pos (by omega)]
        · rw [if_neg cj]
          by_cases cj2 : j < k
          · rw [if_pos cj2, if_pos (by omega)]
          · rw [if_neg cj2, if_neg (by omega)]]
      refine wp_iinc hX (dk DX11_mend 59 rfl) rfl (nI_inc _) rfl hN ?_
      show WP _ _ _ 112 [_, _, _, _, _, _] [] _
      refine wp_goto (tgt := 85) hX (dk DX11_mend_1 0 rfl) (by decide) ?_
      -- to 85
      exact ih (k + 1) (by omega)
  refine wp_iload hX (dk DX11_mend 30 rfl) rfl ?_
  refine wp_iload_n hX (dk DX11_mend 31 rfl) rfl ?_
  refine wp_icmp_ne (tgt := 66) hX (dk DX11_mend 32 rfl) (by decide) (fun _ => ?_) (fun h_ => absurd h_ (he))
  refine wp_aload_n hX (dk DX11_mend 35 rfl) rfl ?_
  refine wp_iload_n hX (dk DX11_mend 36 rfl) rfl ?_
  refine wp_iload_n hX (dk DX11_mend 37 rfl) rfl ?_
  refine wp_iload_n hX (dk DX11_mend 38 rfl) rfl ?_
  refine w_callV (As := [_, _, _]) lkX11_182 hX (dk DX11_mend 39 rfl) rfl rfl (by decide) hN (k_mbec (d + 109) sw f g i w _ (by omega) hw) ?_
  show WP _ _ _ 73 [_, _, _, _, _, _] [] _
  rw [← hf1]
  refine wp_aload_n hX (dk DX11_mend 40 rfl) rfl ?_
  refine w_geti hX flX11_186 (dk DX11_mend 41 rfl) (by decide) rfl ?_
  refine wp_bipush (v := 40) hX (dk DX11_mend 42 rfl) (by decide) ?_
  rw [e81]
  refine wp_icmp_ne (tgt := 125) hX (dk DX11_mend 43 rfl) (by decide) (fun h_ => absurd (rfl) h_) (fun _ => ?_)
  refine wp_iconst (v := 0) hX (dk DX11_mend 44 rfl) (by decide) ?_
  refine wp_istore hX (dk DX11_mend 45 rfl) rfl hN (Nat.le_of_ble_eq_true rfl) ?_
  show WP _ _ _ 85 [_, _, _, _, _, _] [] _
  have := lo 156 0 (by omega)
  rw [e00] at this
  exact this
theorem u_of0 (d : Nat) (sw : Bool) (f : Nat → Nat → Int32) (g : Nat → Nat → Int64) (n m : Nat) (x y : Int32) (hn : f 81 0 = nI n) (hn10 : n ≤ 10) (hm : f 81 5 = nI m) (hm6 : m ≤ 6) (h : ¬ ofG n m x y) : CT (d + 110) 0 0 iX11_of [.ref 81, .int x, .int y] (S sw f g) (rdM g f (-1)) := by
  refine CT.rdM ?_
  have figs : (∃ w, w < 4 ∧ y = nI w) → CT (d + 109) 0 0 iX11_isFigure [.ref 81, .int x] (S sw f g) (QR (some (.int 0)) (S sw f g)) := fun ⟨w, hw, e⟩ => k_mF0 (d + 108) sw f g n x hn hn10 (fun ⟨i, hi, e2⟩ => h (Or.inl ⟨i, w, hi, hw, e2, e⟩))
  have blks : (∃ w, (w = 4 ∨ w = 5) ∧ y = nI w) → CT (d + 109) 0 0 iX11_isBlock [.ref 81, .int x] (S sw f g) (QR (some (.int 0)) (S sw f g)) := fun ⟨w, hw, e⟩ => k_mB0 (d + 108) sw f g m x hm hm6 (fun ⟨i, hi, e2⟩ => h (Or.inr (Or.inl ⟨i, w, hi, hw, e2, e⟩)))
  refine CT.of rfl (Nat.le_of_ble_eq_true rfl) (fun X hX hR hN _ => ?_)
  have hX : Good X RX11 cX11_of (d + 110) 0 0 := hX
  have hN : x_nl X = 3 := hN
  show WP X 0 0 0 [_, _, _] [] _
  refine wp_iload_n hX (dk DX11_of 0 rfl) rfl ?_
  refine wp_eqc 0 (fun h1_0 => ?_) (fun h1_0 => ?_)
  · refine wp_tabAt (c := 0) (off := 43) (tgt := 44) hX (dk DX11_of 1 rfl) h1_0 (by decide) (by decide) (by decide) (by decide) ?_
    have hy := h1_0
    refine wp_aload_n hX (dk DX11_of 2 rfl) rfl ?_
    refine wp_iload_n hX (dk DX11_of 3 rfl) rfl ?_
    refine w_callV (As := [_]) lkX11_127 hX (dk DX11_of 4 rfl) rfl rfl (by decide) hN (figs (by first | exact ⟨0, by decide, hy⟩ | exact ⟨1, by decide, hy⟩ | exact ⟨2, by decide, hy⟩)) ?_
    show WP _ _ _ 49 [_, _, _] [_] _
    refine wp_if_eq (tgt := 61) hX (dk DX11_of 5 rfl) (by decide) (fun _ => ?_) (fun h_ => absurd (rfl) h_)
    refine wp_iconst (v := -1) hX (dk DX11_of 11 rfl) (by decide) ?_
    exact wp_ireturn hX hR (dk DX11_of 12 rfl) rfl (Nat.le_refl _) (Nat.le_refl _) (⟨rfl, rfl⟩)
  refine wp_eqc 1 (fun h1_1 => ?_) (fun h1_1 => ?_)
  · refine wp_tabAt (c := 1) (off := 43) (tgt := 44) hX (dk DX11_of 1 rfl) h1_1 (by decide) (by decide) (by decide) (by decide) ?_
    have hy := h1_1
    refine wp_aload_n hX (dk DX11_of 2 rfl) rfl ?_
    refine wp_iload_n hX (dk DX11_of 3 rfl) rfl ?_
    refine w_callV (As := [_]) lkX11_127 hX (dk DX11_of 4 rfl) rfl rfl (by decide) hN (figs (by first | exact ⟨0, by decide, hy⟩ | exact ⟨1, by decide, hy⟩ | exact ⟨2, by decide, hy⟩)) ?_
    show WP _ _ _ 49 [_, _, _] [_] _
    refine wp_if_eq (tgt := 61) hX (dk DX11_of 5 rfl) (by decide) (fun _ => ?_) (fun h_ => absurd (rfl) h_)
    refine wp_iconst (v := -1) hX (dk DX11_of 11 rfl) (by decide) ?_
    exact wp_ireturn hX hR (dk DX11_of 12 rfl) rfl (Nat.le_refl _) (Nat.le_refl _) (⟨rfl, rfl⟩)
  refine wp_eqc 2 (fun h1_2 => ?_) (fun h1_2 => ?_)
  · refine wp_tabAt (c := 2) (off := 43) (tgt := 44) hX (dk DX11_of 1 rfl) h1_2 (by decide) (by decide) (by decide) (by decide) ?_
    have hy := h1_2
    refine wp_aload_n hX (dk DX11_of 2 rfl) rfl ?_
    refine wp_iload_n hX (dk DX11_of 3 rfl) rfl ?_
    refine w_callV (As := [_]) lkX11_127 hX (dk DX11_of 4 rfl) rfl rfl (by decide) hN (figs (by first | exact ⟨0, by decide, hy⟩ | exact ⟨1, by decide, hy⟩ | exact ⟨2, by decide, hy⟩)) ?_
    show WP _ _ _ 49 [_, _, _] [_] _
    refine wp_if_eq (tgt := 61) hX (dk DX11_of 5 rfl) (by decide) (fun _ => ?_) (fun h_ => absurd (rfl) h_)
    refine wp_iconst (v := -1) hX (dk DX11_of 11 rfl) (by decide) ?_
    exact wp_ireturn hX hR (dk DX11_of 12 rfl) rfl (Nat.le_refl _) (Nat.le_refl _) (⟨rfl, rfl⟩)
  refine wp_eqc 3 (fun h1_3 => ?_) (fun h1_3 => ?_)
  · refine wp_tabAt (c := 3) (off := 62) (tgt := 63) hX (dk DX11_of 1 rfl) h1_3 (by decide) (by decide) (by decide) (by decide) ?_
    have hy := h1_3
    refine wp_aload_n hX (dk DX11_of 13 rfl) rfl ?_
    refine wp_iload_n hX (dk DX11_of 14 rfl) rfl ?_
    refine w_callV (As := [_]) lkX11_127 hX (dk DX11_of 15 rfl) rfl rfl (by decide) hN (figs ⟨3, by decide, hy⟩) ?_
    show WP _ _ _ 68 [_, _, _] [_] _
    refine wp_if_eq (tgt := 80) hX (dk DX11_of 16 rfl) (by decide) (fun _ => ?_) (fun h_ => absurd (rfl) h_)
    refine wp_iconst (v := -1) hX (dk DX11_of 22 rfl) (by decide) ?_
    exact wp_ireturn hX hR (dk DX11_of 23 rfl) rfl (Nat.le_refl _) (Nat.le_refl _) (⟨rfl, rfl⟩)
  refine wp_eqc 4 (fun h1_4 => ?_) (fun h1_4 => ?_)
  · refine wp_tabAt (c := 4) (off := 81) (tgt := 82) hX (dk DX11_of 1 rfl) h1_4 (by decide) (by decide) (by decide) (by decide) ?_
    have hy := h1_4
    refine wp_aload_n hX (dk DX11_of 24 rfl) rfl ?_
    refine wp_iload_n hX (dk DX11_of 25 rfl) rfl ?_
    refine w_callV (As := [_]) lkX11_123 hX (dk DX11_of 26 rfl) rfl rfl (by decide) hN (blks ⟨4, Or.inl rfl, hy⟩) ?_
    show WP _ _ _ 87 [_, _, _] [_] _
    refine wp_if_eq (tgt := 99) hX (dk DX11_of 27 rfl) (by decide) (fun _ => ?_) (fun h_ => absurd (rfl) h_)
    refine wp_iconst (v := -1) hX (dk DX11_of 33 rfl) (by decide) ?_
    exact wp_ireturn hX hR (dk DX11_of 34 rfl) rfl (Nat.le_refl _) (Nat.le_refl _) (⟨rfl, rfl⟩)
  refine wp_eqc 5 (fun h1_5 => ?_) (fun h1_5 => ?_)
  · refine wp_tabAt (c := 5) (off := 100) (tgt := 101) hX (dk DX11_of 1 rfl) h1_5 (by decide) (by decide) (by decide) (by decide) ?_
    have hy := h1_5
    refine wp_aload_n hX (dk DX11_of 35 rfl) rfl ?_
    refine wp_iload_n hX (dk DX11_of 36 rfl) rfl ?_
    refine w_callV (As := [_]) lkX11_123 hX (dk DX11_of 37 rfl) rfl rfl (by decide) hN (blks ⟨5, Or.inr rfl, hy⟩) ?_
    show WP _ _ _ 106 [_, _, _] [_] _
    refine wp_if_eq (tgt := 118) hX (dk DX11_of 38 rfl) (by decide) (fun _ => ?_) (fun h_ => absurd (rfl) h_)
    refine wp_iconst (v := -1) hX (dk DX11_of 44 rfl) (by decide) ?_
    exact wp_ireturn hX hR (dk DX11_of 45 rfl) rfl (Nat.le_refl _) (Nat.le_refl _) (⟨rfl, rfl⟩)
  refine wp_eqc 6 (fun h1_6 => ?_) (fun h1_6 => ?_)
  · refine wp_tabAt (c := 6) (off := 119) (tgt := 120) hX (dk DX11_of 1 rfl) h1_6 (by decide) (by decide) (by decide) (by decide) ?_
    have hy := h1_6
    refine wp_iload_n hX (dk DX11_of 46 rfl) rfl ?_
    refine wp_if_ne (tgt := 131) hX (dk DX11_of 47 rfl) (by decide) (fun _ => ?_) (fun h_ => absurd h_ (fun e => h (Or.inr (Or.inr ⟨e, hy⟩))))
    refine wp_iconst (v := -1) hX (dk DX11_of 51 rfl) (by decide) ?_
    exact wp_ireturn hX hR (dk DX11_of 52 rfl) rfl (Nat.le_refl _) (Nat.le_refl _) (⟨rfl, rfl⟩)
  · refine wp_tabOut (tgt := 133) hX (dk DX11_of 1 rfl) (by have := ne_toI h1_0 (k := 0) (by decide); have := ne_toI h1_1 (k := 1) (by decide); have := ne_toI h1_2 (k := 2) (by decide); have := ne_toI h1_3 (k := 3) (by decide); have := ne_toI h1_4 (k := 4) (by decide); have := ne_toI h1_5 (k := 5) (by decide); have := ne_toI h1_6 (k := 6) (by decide); omega) (by decide) ?_
    refine wp_iconst (v := -1) hX (dk DX11_of 53 rfl) (by decide) ?_
    exact wp_ireturn hX hR (dk DX11_of 54 rfl) rfl (Nat.le_refl _) (Nat.le_refl _) (⟨rfl, rfl⟩)
theorem u_ofT (d : Nat) (sw : Bool) (f : Nat → Nat → Int32) (g : Nat → Nat → Int64) (n i w : Nat) (hn : f 81 0 = nI n) (hn10 : n ≤ 10) (hi : i < n) (hw : w < 3) : CT (d + 110) 0 0 iX11_of [.ref 81, .int (nI i), .int (nI w)] (S sw f g) (rdM g f (f (83 + w) i)) := by
  have hw3 : w = 0 ∨ w = 1 ∨ w = 2 := by omega
  have key : ∀ X : cxT, Good X RX11 cX11_of (d + 110) 0 0 → x_nl X = 3 → RQ X (some .int) 0 0 (QR (some (.int (f (83 + w) i))) (S sw f g)) → WP X 0 0 44 [some (.ref 81), some (.int (nI i)), some (.int (nI w))] [] (S sw f g) := by
    intro X hX hN hR
    refine wp_aload_n hX (dk DX11_of 2 rfl) rfl ?_
    refine wp_iload_n hX (dk DX11_of 3 rfl) rfl ?_
    refine w_callV (As := [_]) lkX11_127 hX (dk DX11_of 4 rfl) rfl rfl (by decide) hN (k_mF1 (d + 108) sw f g n i hn hn10 hi) ?_
    show WP _ _ _ 49 [_, _, _] [_] _
    refine wp_if_eq (tgt := 61) hX (dk DX11_of 5 rfl) (by decide) (fun h_ => absurd h_ (by decide)) (fun _ => ?_)
    refine wp_aload_n hX (dk DX11_of 6 rfl) rfl ?_
    refine wp_iload_n hX (dk DX11_of 7 rfl) rfl ?_
    refine wp_iload_n hX (dk DX11_of 8 rfl) rfl ?_
    refine w_callV (As := [_, _]) lkX11_179 hX (dk DX11_of 9 rfl) rfl rfl (by decide) hN (k_mget (d + 109) sw f g i w (by omega) hw) ?_
    show WP _ _ _ 58 [_, _, _] [_] _
    refine wp_goto (tgt := 62) hX (dk DX11_of 10 rfl) (by decide) ?_
    exact wp_ireturn hX hR (dk DX11_of 12 rfl) rfl (Nat.le_refl _) (Nat.le_refl _) (⟨rfl, rfl⟩)
  refine CT.rdM ?_
  refine CT.of rfl (Nat.le_of_ble_eq_true rfl) (fun X hX hR hN _ => ?_)
  have hX : Good X RX11 cX11_of (d + 110) 0 0 := hX
  have hN : x_nl X = 3 := hN
  show WP X 0 0 0 [_, _, _] [] _
  refine wp_iload_n hX (dk DX11_of 0 rfl) rfl ?_
  rcases hw3 with rfl | rfl | rfl
  · refine wp_tabAt (c := 0) (off := 43) (tgt := 44) hX (dk DX11_of 1 rfl) (rfl) (by decide) (by decide) (by decide) (by decide) ?_
    exact key X hX hN hR
  · refine wp_tabAt (c := 1) (off := 43) (tgt := 44) hX (dk DX11_of 1 rfl) (rfl) (by decide) (by decide) (by decide) (by decide) ?_
    exact key X hX hN hR
  · refine wp_tabAt (c := 2) (off := 43) (tgt := 44) hX (dk DX11_of 1 rfl) (rfl) (by decide) (by decide) (by decide) (by decide) ?_
    exact key X hX hN hR
theorem u_of3 (d : Nat) (sw : Bool) (f : Nat → Nat → Int32) (g : Nat → Nat → Int64) (n i : Nat) (hn : f 81 0 = nI n) (hn10 : n ≤ 10) (hi : i < n) : CT (d + 110) 0 0 iX11_of [.ref 81, .int (nI i), .int 3] (S sw f g) (rdM g f (f 82 i)) := by
  refine CT.rdM ?_
  refine CT.of rfl (Nat.le_of_ble_eq_true rfl) (fun X hX hR hN _ => ?_)
  have hX : Good X RX11 cX11_of (d + 110) 0 0 := hX
  have hN : x_nl X = 3 := hN
  show WP X 0 0 0 [_, _, _] [] _
  refine wp_iload_n hX (dk DX11_of 0 rfl) rfl ?_
  refine wp_tabAt (c := 3) (off := 62) (tgt := 63) hX (dk DX11_of 1 rfl) (rfl) (by decide) (by decide) (by decide) (by decide) ?_
  refine wp_aload_n hX (dk DX11_of 13 rfl) rfl ?_
  refine wp_iload_n hX (dk DX11_of 14 rfl) rfl ?_
  refine w_callV (As := [_]) lkX11_127 hX (dk DX11_of 15 rfl) rfl rfl (by decide) hN (k_mF1 (d + 108) sw f g n i hn hn10 hi) ?_
  show WP _ _ _ 68 [_, _, _] [_] _
  refine wp_if_eq (tgt := 80) hX (dk DX11_of 16 rfl) (by decide) (fun h_ => absurd h_ (by decide)) (fun _ => ?_)
  refine wp_aload_n hX (dk DX11_of 17 rfl) rfl ?_
  refine w_getr hX flX11_9 (dk DX11_of 18 rfl) rfl rfl ?_
  refine wp_iload_n hX (dk DX11_of 19 rfl) rfl ?_
  refine w_iald (j := _) hX (dk DX11_of 20 rfl) rfl rfl (show _ < 10 by omega) ?_
  refine wp_goto (tgt := 81) hX (dk DX11_of 21 rfl) (by decide) ?_
  exact wp_ireturn hX hR (dk DX11_of 23 rfl) rfl (Nat.le_refl _) (Nat.le_refl _) (⟨rfl, rfl⟩)
theorem u_of4 (d : Nat) (sw : Bool) (f : Nat → Nat → Int32) (g : Nat → Nat → Int64) (m b : Nat) (hm : f 81 5 = nI m) (hm6 : m ≤ 6) (hb : b < m) : CT (d + 110) 0 0 iX11_of [.ref 81, .int (nI b), .int 4] (S sw f g) (rdM g f (f 86 b)) := by
  refine CT.rdM ?_
  refine CT.of rfl (Nat.le_of_ble_eq_true rfl) (fun X hX hR hN _ => ?_)
  have hX : Good X RX11 cX11_of (d + 110) 0 0 := hX
  have hN : x_nl X = 3 := hN
  show WP X 0 0 0 [_, _, _] [] _
  refine wp_iload_n hX (dk DX11_of 0 rfl) rfl ?_
  refine wp_tabAt (c := 4) (off := 81) (tgt := 82) hX (dk DX11_of 1 rfl) (rfl) (by decide) (by decide) (by decide) (by decide) ?_
  refine wp_aload_n hX (dk DX11_of 24 rfl) rfl ?_
  refine wp_iload_n hX (dk DX11_of 25 rfl) rfl ?_
  refine w_callV (As := [_]) lkX11_123 hX (dk DX11_of 26 rfl) rfl rfl (by decide) hN (k_mB1 (d + 108) sw f g m b hm hm6 hb) ?_
  show WP _ _ _ 87 [_, _, _] [_] _
  refine wp_if_eq (tgt := 99) hX (dk DX11_of 27 rfl) (by decide) (fun h_ => absurd h_ (by decide)) (fun _ => ?_)
  refine wp_aload_n hX (dk DX11_of 28 rfl) rfl ?_
  refine w_getr hX flX11_24 (dk DX11_of 29 rfl) rfl rfl ?_
  refine wp_iload_n hX (dk DX11_of 30 rfl) rfl ?_
  refine w_iald (j := _) hX (dk DX11_of 31 rfl) rfl rfl (show _ < 6 by omega) ?_
  refine wp_goto (tgt := 100) hX (dk DX11_of 32 rfl) (by decide) ?_
  exact wp_ireturn hX hR (dk DX11_of 34 rfl) rfl (Nat.le_refl _) (Nat.le_refl _) (⟨rfl, rfl⟩)
theorem u_of5 (d : Nat) (sw : Bool) (f : Nat → Nat → Int32) (g : Nat → Nat → Int64) (m b : Nat) (hm : f 81 5 = nI m) (hm6 : m ≤ 6) (hb : b < m) : CT (d + 110) 0 0 iX11_of [.ref 81, .int (nI b), .int 5] (S sw f g) (rdM g f (f 87 b)) := by
  refine CT.rdM ?_
  refine CT.of rfl (Nat.le_of_ble_eq_true rfl) (fun X hX hR hN _ => ?_)
  have hX : Good X RX11 cX11_of (d + 110) 0 0 := hX
  have hN : x_nl X = 3 := hN
  show WP X 0 0 0 [_, _, _] [] _
  refine wp_iload_n hX (dk DX11_of 0 rfl) rfl ?_
  refine wp_tabAt (c := 5) (off := 100) (tgt := 101) hX (dk DX11_of 1 rfl) (rfl) (by decide) (by decide) (by decide) (by decide) ?_
  refine wp_aload_n hX (dk DX11_of 35 rfl) rfl ?_
  refine wp_iload_n hX (dk DX11_of 36 rfl) rfl ?_
  refine w_callV (As := [_]) lkX11_123 hX (dk DX11_of 37 rfl) rfl rfl (by decide) hN (k_mB1 (d + 108) sw f g m b hm hm6 hb) ?_
  show WP _ _ _ 106 [_, _, _] [_] _
  refine wp_if_eq (tgt := 118) hX (dk DX11_of 38 rfl) (by decide) (fun h_ => absurd h_ (by decide)) (fun _ => ?_)
  refine wp_aload_n hX (dk DX11_of 39 rfl) rfl ?_
  refine w_getr hX flX11_27 (dk DX11_of 40 rfl) rfl rfl ?_
  refine wp_iload_n hX (dk DX11_of 41 rfl) rfl ?_
  refine w_iald (j := _) hX (dk DX11_of 42 rfl) rfl rfl (show _ < 6 by omega) ?_
  refine wp_goto (tgt := 119) hX (dk DX11_of 43 rfl) (by decide) ?_
  exact wp_ireturn hX hR (dk DX11_of 45 rfl) rfl (Nat.le_refl _) (Nat.le_refl _) (⟨rfl, rfl⟩)
theorem u_of6 (d : Nat) (sw : Bool) (f : Nat → Nat → Int32) (g : Nat → Nat → Int64) : CT (d + 110) 0 0 iX11_of [.ref 81, .int 0, .int 6] (S sw f g) (rdM g f (f 81 8)) := by
  refine CT.rdM ?_
  refine CT.of rfl (Nat.le_of_ble_eq_true rfl) (fun X hX hR hN _ => ?_)
  have hX : Good X RX11 cX11_of (d + 110) 0 0 := hX
  have hN : x_nl X = 3 := hN
  show WP X 0 0 0 [_, _, _] [] _
  refine wp_iload_n hX (dk DX11_of 0 rfl) rfl ?_
  refine wp_tabAt (c := 6) (off := 119) (tgt := 120) hX (dk DX11_of 1 rfl) (rfl) (by decide) (by decide) (by decide) (by decide) ?_
  refine wp_iload_n hX (dk DX11_of 46 rfl) rfl ?_
  refine wp_if_ne (tgt := 131) hX (dk DX11_of 47 rfl) (by decide) (fun h_ => absurd (rfl) h_) (fun _ => ?_)
  refine wp_aload_n hX (dk DX11_of 48 rfl) rfl ?_
  refine w_geti hX flX11_192 (dk DX11_of 49 rfl) (by decide) rfl ?_
  refine wp_goto (tgt := 132) hX (dk DX11_of 50 rfl) (by decide) ?_
  exact wp_ireturn hX hR (dk DX11_of 52 rfl) rfl (Nat.le_refl _) (Nat.le_refl _) (⟨rfl, rfl⟩)
