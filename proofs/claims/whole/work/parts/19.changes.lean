/-! CHANGES, SHELVES -/
theorem k_done (d : Nat) (sw : Bool) (f : Nat → Nat → Int32) (g : Nat → Nat → Int64) : CT d 0 0 iX0_done [.ref 68] (S sw f g) (QR (some (.int (f 68 1))) (S sw f g)) := by
  refine CT.of rfl (Nat.le_of_ble_eq_true rfl) (fun X hX hR hN _ => ?_)
  have hX : Good X RX0 cX0_done d 0 0 := hX
  have hN : x_nl X = 1 := hN
  show WP X 0 0 0 [_] [] _
  refine wp_aload_n hX (dk DX0_done 0 rfl) rfl ?_
  refine w_geti hX flX0_15 (dk DX0_done 1 rfl) (by decide) rfl ?_
  exact wp_ireturn hX hR (dk DX0_done 2 rfl) rfl (Nat.le_refl _) (Nat.le_refl _) (⟨rfl, rfl⟩)
/-- a change is written behind the n that are done -/
def jchp (f : Nat → Nat → Int32) (n : Nat) (x y z u : Int32) : Nat → Nat → Int32 := u2 (u2 (u2 (u2 (u2 (u2 f 69 (n * 4) x) 69 (n * 4 + 1) y) 69 (n * 4 + 2) z) 69 (n * 4 + 3) u) 68 1 (nI (n + 1))) 68 2 0
theorem ix4 (a : Nat) : nI a * 4 = nI (a * 4) := pk_mul a 4
theorem k_chadd0 (d : Nat) (sw : Bool) (f : Nat → Nat → Int32) (g : Nat → Nat → Int64) (n : Nat) (x y z u : Int32) (hn : n < 40) (h : f 68 1 = nI n) : CT (d + 1) 0 0 iX0_add [.ref 68, .int x, .int y, .int z, .int u] (S sw f g) (QR none (S sw (jchp f n x y z u) g)) := by
  refine CT.of rfl (Nat.le_of_ble_eq_true rfl) (fun X hX hR hN _ => ?_)
  have hX : Good X RX0 cX0_add (d + 1) 0 0 := hX
  have hN : x_nl X = 6 := hN
  show WP X 0 0 0 [_, _, _, _, _, _] [] _
  refine wp_aload_n hX (dk DX0_add 0 rfl) rfl ?_
  refine w_geti hX flX0_15 (dk DX0_add 1 rfl) (by decide) rfl ?_
  refine wp_bipush (v := 40) hX (dk DX0_add 2 rfl) (by decide) ?_
  rw [h]
  refine wp_icmp_lt (tgt := 31) hX (dk DX0_add 3 rfl) (by decide) (fun _ => ?_) (fun h_ => absurd ((nI_lt (b := 40) hn (by omega))) h_)
  refine wp_aload_n hX (dk DX0_add 15 rfl) rfl ?_
  refine w_geti hX flX0_15 (dk DX0_add 16 rfl) (by decide) rfl ?_
  rw [h]
  refine wp_iconst (v := 4) hX (dk DX0_add 17 rfl) (by decide) ?_
  refine wp_imul hX (dk DX0_add 18 rfl) ?_
  rw [ix4]
  refine wp_istore hX (dk DX0_add 19 rfl) rfl hN (Nat.le_of_ble_eq_true rfl) ?_
  show WP _ _ _ 39 [_, _, _, _, _, _] [] _
  refine wp_aload_n hX (dk DX0_add 20 rfl) rfl ?_
  refine w_getr hX flX0_11 (dk DX0_add 21 rfl) rfl rfl ?_
  refine wp_iload hX (dk DX0_add 22 rfl) rfl ?_
  refine wp_iload_n hX (dk DX0_add 23 rfl) rfl ?_
  refine w_iast (j := (n * 4)) hX (dk DX0_add 24 rfl) rfl rfl (show _ < 160 by omega) ?_
  refine wp_aload_n hX (dk DX0_add 25 rfl) rfl ?_
  refine w_getr hX flX0_11 (dk DX0_add 26 rfl) rfl rfl ?_
  refine wp_iload hX (dk DX0_add 27 rfl) rfl ?_
  refine wp_iconst (v := 1) hX (dk DX0_add 28 rfl) (by decide) ?_
  refine wp_iadd hX (dk DX0_add 29 rfl) ?_
  refine wp_iload_n hX (dk DX0_add 30 rfl) rfl ?_
  refine w_iast (j := (n * 4 + 1)) hX (dk DX0_add 31 rfl) rfl (nI_add (n * 4) 1) (show _ < 160 by omega) ?_
  refine wp_aload_n hX (dk DX0_add 32 rfl) rfl ?_
  refine w_getr hX flX0_11 (dk DX0_add 33 rfl) rfl rfl ?_
  refine wp_iload hX (dk DX0_add 34 rfl) rfl ?_
  refine wp_iconst (v := 2) hX (dk DX0_add 35 rfl) (by decide) ?_
  refine wp_iadd hX (dk DX0_add 36 rfl) ?_
  refine wp_iload_n hX (dk DX0_add 37 rfl) rfl ?_
  refine w_iast (j := (n * 4 + 2)) hX (dk DX0_add 38 rfl) rfl (nI_add (n * 4) 2) (show _ < 160 by omega) ?_
  refine wp_aload_n hX (dk DX0_add 39 rfl) rfl ?_
  refine w_getr hX flX0_11 (dk DX0_add 40 rfl) rfl rfl ?_
  refine wp_iload hX (dk DX0_add 41 rfl) rfl ?_
  refine wp_iconst (v := 3) hX (dk DX0_add 42 rfl) (by decide) ?_
  refine wp_iadd hX (dk DX0_add 43 rfl) ?_
  refine wp_iload hX (dk DX0_add 44 rfl) rfl ?_
  refine w_iast (j := (n * 4 + 3)) hX (dk DX0_add 45 rfl) rfl (nI_add (n * 4) 3) (show _ < 160 by omega) ?_
  refine wp_aload_n hX (dk DX0_add 46 rfl) rfl ?_
  refine wp_dup hX (dk DX0_add 47 rfl) rfl ?_
  refine w_geti hX flX0_15 (dk DX0_add 48 rfl) (by decide) rfl ?_
  rw [show u2 (u2 (u2 (u2 f 69 (n * 4) x) 69 (n * 4 + 1) y) 69 (n * 4 + 2) z) 69 (n * 4 + 3) u 68 1 = nI n from h]
  refine wp_iconst (v := 1) hX (dk DX0_add 49 rfl) (by decide) ?_
  refine wp_iadd hX (dk DX0_add 50 rfl) ?_
  rw [nI_1]
  refine w_puti hX fpX0_15 (dk DX0_add 51 rfl) rfl ?_
  refine wp_aload_n hX (dk DX0_add 52 rfl) rfl ?_
  refine wp_iconst (v := 0) hX (dk DX0_add 53 rfl) (by decide) ?_
  refine w_puti hX fpX0_25 (dk DX0_add 54 rfl) rfl ?_
  exact wp_return hX hR (dk DX0_add 55 rfl) (Nat.le_refl _) (Nat.le_refl _) (⟨rfl, rfl⟩)
theorem k_chadd1 (d : Nat) (sw : Bool) (f : Nat → Nat → Int32) (g : Nat → Nat → Int64) (x y z u : Int32) (h : f 68 1 = nI 40) : CT (d + 1) 0 0 iX0_add [.ref 68, .int x, .int y, .int z, .int u] (S sw f g) (QR none (S sw (jchp (u2 (u1 f 69 (va_cpy (f 69) (f 69) 4 0 156)) 68 1 39) 39 x y z u) g)) := by
  refine CT.of rfl (Nat.le_of_ble_eq_true rfl) (fun X hX hR hN _ => ?_)
  have hX : Good X RX0 cX0_add (d + 1) 0 0 := hX
  have hN : x_nl X = 6 := hN
  show WP X 0 0 0 [_, _, _, _, _, _] [] _
  refine wp_aload_n hX (dk DX0_add 0 rfl) rfl ?_
  refine w_geti hX flX0_15 (dk DX0_add 1 rfl) (by decide) rfl ?_
  refine wp_bipush (v := 40) hX (dk DX0_add 2 rfl) (by decide) ?_
  rw [h]
  refine wp_icmp_lt (tgt := 31) hX (dk DX0_add 3 rfl) (by decide) (fun h_ => absurd h_ ((by decide))) (fun _ => ?_)
  refine wp_aload_n hX (dk DX0_add 4 rfl) rfl ?_
  refine w_getr hX flX0_11 (dk DX0_add 5 rfl) rfl rfl ?_
  refine wp_iconst (v := 4) hX (dk DX0_add 6 rfl) (by decide) ?_
  refine wp_aload_n hX (dk DX0_add 7 rfl) rfl ?_
  refine w_getr hX flX0_11 (dk DX0_add 8 rfl) rfl rfl ?_
  refine wp_iconst (v := 0) hX (dk DX0_add 9 rfl) (by decide) ?_
  refine wp_sipush (v := 156) hX (dk DX0_add 10 rfl) (by decide) ?_
  refine w_copyi (sp := 4) (dp := 0) (n := 156) hX lkX0_19 (dk DX0_add 11 rfl) (by decide) rfl rfl rfl rfl rfl (by decide) (by decide) ?_
  refine wp_aload_n hX (dk DX0_add 12 rfl) rfl ?_
  refine wp_bipush (v := 39) hX (dk DX0_add 13 rfl) (by decide) ?_
  refine w_puti hX fpX0_15 (dk DX0_add 14 rfl) rfl ?_
  refine wp_aload_n hX (dk DX0_add 15 rfl) rfl ?_
  refine w_geti hX flX0_15 (dk DX0_add 16 rfl) (by decide) rfl ?_
  rw [u2_at]
  refine wp_iconst (v := 4) hX (dk DX0_add 17 rfl) (by decide) ?_
  refine wp_imul hX (dk DX0_add 18 rfl) ?_
  rw [show (39 : Int32) * 4 = nI (39 * 4) from rfl]
  refine wp_istore hX (dk DX0_add 19 rfl) rfl hN (Nat.le_of_ble_eq_true rfl) ?_
  show WP _ _ _ 39 [_, _, _, _, _, _] [] _
  refine wp_aload_n hX (dk DX0_add 20 rfl) rfl ?_
  refine w_getr hX flX0_11 (dk DX0_add 21 rfl) rfl rfl ?_
  refine wp_iload hX (dk DX0_add 22 rfl) rfl ?_
  refine wp_iload_n hX (dk DX0_add 23 rfl) rfl ?_
  refine w_iast (j := (39 * 4)) hX (dk DX0_add 24 rfl) rfl rfl (by decide) ?_
  refine wp_aload_n hX (dk DX0_add 25 rfl) rfl ?_
  refine w_getr hX flX0_11 (dk DX0_add 26 rfl) rfl rfl ?_
  refine wp_iload hX (dk DX0_add 27 rfl) rfl ?_
  refine wp_iconst (v := 1) hX (dk DX0_add 28 rfl) (by decide) ?_
  refine wp_iadd hX (dk DX0_add 29 rfl) ?_
  refine wp_iload_n hX (dk DX0_add 30 rfl) rfl ?_
  refine w_iast (j := (39 * 4 + 1)) hX (dk DX0_add 31 rfl) rfl (nI_add (39 * 4) 1) (by decide) ?_
  refine wp_aload_n hX (dk DX0_add 32 rfl) rfl ?_
  refine w_getr hX flX0_11 (dk DX0_add 33 rfl) rfl rfl ?_
  refine wp_iload hX (dk DX0_add 34 rfl) rfl ?_
  refine wp_iconst (v := 2) hX (dk DX0_add 35 rfl) (by decide) ?_
  refine wp_iadd hX (dk DX0_add 36 rfl) ?_
  refine wp_iload_n hX (dk DX0_add 37 rfl) rfl ?_
  refine w_iast (j := (39 * 4 + 2)) hX (dk DX0_add 38 rfl) rfl (nI_add (39 * 4) 2) (by decide) ?_
  refine wp_aload_n hX (dk DX0_add 39 rfl) rfl ?_
  refine w_getr hX flX0_11 (dk DX0_add 40 rfl) rfl rfl ?_
  refine wp_iload hX (dk DX0_add 41 rfl) rfl ?_
  refine wp_iconst (v := 3) hX (dk DX0_add 42 rfl) (by decide) ?_
  refine wp_iadd hX (dk DX0_add 43 rfl) ?_
  refine wp_iload hX (dk DX0_add 44 rfl) rfl ?_
  refine w_iast (j := (39 * 4 + 3)) hX (dk DX0_add 45 rfl) rfl (nI_add (39 * 4) 3) (by decide) ?_
  refine wp_aload_n hX (dk DX0_add 46 rfl) rfl ?_
  refine wp_dup hX (dk DX0_add 47 rfl) rfl ?_
  refine w_geti hX flX0_15 (dk DX0_add 48 rfl) (by decide) rfl ?_
  rw [show u2 (u2 (u2 (u2 (u2 (u1 f 69 (va_cpy (f 69) (f 69) 4 0 156)) 68 1 39) 69 (39 * 4) x) 69 (39 * 4 + 1) y) 69 (39 * 4 + 2) z) 69 (39 * 4 + 3) u 68 1 = nI 39 from rfl]
  refine wp_iconst (v := 1) hX (dk DX0_add 49 rfl) (by decide) ?_
  refine wp_iadd hX (dk DX0_add 50 rfl) ?_
  rw [nI_1]
  refine w_puti hX fpX0_15 (dk DX0_add 51 rfl) rfl ?_
  refine wp_aload_n hX (dk DX0_add 52 rfl) rfl ?_
  refine wp_iconst (v := 0) hX (dk DX0_add 53 rfl) (by decide) ?_
  refine w_puti hX fpX0_25 (dk DX0_add 54 rfl) rfl ?_
  exact wp_return hX hR (dk DX0_add 55 rfl) (Nat.le_refl _) (Nat.le_refl _) (⟨rfl, rfl⟩)
theorem k_takeBack0 (d : Nat) (sw : Bool) (f : Nat → Nat → Int32) (g : Nat → Nat → Int64) (h : f 68 1 = nI 0) : CT (d + 1) 0 0 iX0_takeBack [.ref 68, .ref 1] (S sw f g) (QR (some (.int (-5))) (S sw f g)) := by
  refine CT.of rfl (Nat.le_of_ble_eq_true rfl) (fun X hX hR hN _ => ?_)
  have hX : Good X RX0 cX0_takeBack (d + 1) 0 0 := hX
  have hN : x_nl X = 3 := hN
  show WP X 0 0 0 [_, _, _] [] _
  refine wp_aload_n hX (dk DX0_takeBack 0 rfl) rfl ?_
  refine w_geti hX flX0_15 (dk DX0_takeBack 1 rfl) (by decide) rfl ?_
  refine wp_if_ne (tgt := 10) hX (dk DX0_takeBack 2 rfl) (by decide) (fun h_ => absurd (h) h_) (fun _ => ?_)
  refine wp_bipush (v := -5) hX (dk DX0_takeBack 3 rfl) (by decide) ?_
  exact wp_ireturn hX hR (dk DX0_takeBack 4 rfl) rfl (Nat.le_refl _) (Nat.le_refl _) (⟨rfl, rfl⟩)
theorem k_takeBack (d : Nat) (sw : Bool) (f : Nat → Nat → Int32) (g : Nat → Nat → Int64) (n i w : Nat) (hn : n < 40) (h : f 68 1 = nI (n + 1)) (hi : f 69 (n * 4) = nI i) (hw : f 69 (n * 4 + 1) = nI w) (hi10 : i < 10) (hw3 : w < 3) : CT (d + 1) 0 0 iX0_takeBack [.ref 68, .ref 1] (S sw f g) (QR (some (.int (nI n))) (S sw (u2 (u2 (u2 f 68 1 (nI n)) 68 2 (f 68 2 + 1)) 3 (i * 3 + w) (f 69 (n * 4 + 2))) g)) := by
  refine CT.of rfl (Nat.le_of_ble_eq_true rfl) (fun X hX hR hN _ => ?_)
  have hX : Good X RX0 cX0_takeBack (d + 1) 0 0 := hX
  have hN : x_nl X = 3 := hN
  show WP X 0 0 0 [_, _, _] [] _
  refine wp_aload_n hX (dk DX0_takeBack 0 rfl) rfl ?_
  refine w_geti hX flX0_15 (dk DX0_takeBack 1 rfl) (by decide) rfl ?_
  refine wp_if_ne (tgt := 10) hX (dk DX0_takeBack 2 rfl) (by decide) (fun _ => ?_) (fun h_ => absurd h_ ((by rw [h]; exact nI_ne0 (by omega) (by omega))))
  refine wp_aload_n hX (dk DX0_takeBack 5 rfl) rfl ?_
  refine wp_dup hX (dk DX0_takeBack 6 rfl) rfl ?_
  refine w_geti hX flX0_15 (dk DX0_takeBack 7 rfl) (by decide) rfl ?_
  rw [h]
  refine wp_iconst (v := 1) hX (dk DX0_takeBack 8 rfl) (by decide) ?_
  refine wp_isub hX (dk DX0_takeBack 9 rfl) ?_
  rw [nI_pred]
  refine w_puti hX fpX0_15 (dk DX0_takeBack 10 rfl) rfl ?_
  refine wp_aload_n hX (dk DX0_takeBack 11 rfl) rfl ?_
  refine wp_dup hX (dk DX0_takeBack 12 rfl) rfl ?_
  refine w_geti hX flX0_25 (dk DX0_takeBack 13 rfl) (by decide) rfl ?_
  rw [show u2 f 68 1 (nI n) 68 2 = f 68 2 from u2_off _ _ _ (by decide)]
  refine wp_iconst (v := 1) hX (dk DX0_takeBack 14 rfl) (by decide) ?_
  refine wp_iadd hX (dk DX0_takeBack 15 rfl) ?_
  refine w_puti hX fpX0_25 (dk DX0_takeBack 16 rfl) rfl ?_
  refine wp_aload_n hX (dk DX0_takeBack 17 rfl) rfl ?_
  refine w_geti hX flX0_15 (dk DX0_takeBack 18 rfl) (by decide) rfl ?_
  rw [show u2 (u2 f 68 1 (nI n)) 68 2 (f 68 2 + 1) 68 1 = nI n by rw [u2_off _ _ _ (by decide), u2_at]]
  refine wp_iconst (v := 4) hX (dk DX0_takeBack 19 rfl) (by decide) ?_
  refine wp_imul hX (dk DX0_takeBack 20 rfl) ?_
  rw [ix4]
  refine wp_istore_n hX (dk DX0_takeBack 21 rfl) rfl rfl hN (Nat.le_of_ble_eq_true rfl) ?_
  show WP _ _ _ 37 [_, _, _] [] _
  refine wp_aload_n hX (dk DX0_takeBack 22 rfl) rfl ?_
  refine wp_aload_n hX (dk DX0_takeBack 23 rfl) rfl ?_
  refine w_getr hX flX0_11 (dk DX0_takeBack 24 rfl) rfl rfl ?_
  refine wp_iload_n hX (dk DX0_takeBack 25 rfl) rfl ?_
  refine w_iald (j := (n * 4)) hX (dk DX0_takeBack 26 rfl) rfl rfl (show _ < 160 by omega) ?_
  rw [show u2 (u2 f 68 1 (nI n)) 68 2 (f 68 2 + 1) 69 (n * 4) = nI i from hi]
  refine wp_aload_n hX (dk DX0_takeBack 27 rfl) rfl ?_
  refine w_getr hX flX0_11 (dk DX0_takeBack 28 rfl) rfl rfl ?_
  refine wp_iload_n hX (dk DX0_takeBack 29 rfl) rfl ?_
  refine wp_iconst (v := 1) hX (dk DX0_takeBack 30 rfl) (by decide) ?_
  refine wp_iadd hX (dk DX0_takeBack 31 rfl) ?_
  refine w_iald (j := (n * 4 + 1)) hX (dk DX0_takeBack 32 rfl) rfl (nI_add (n * 4) 1) (show _ < 160 by omega) ?_
  rw [show u2 (u2 f 68 1 (nI n)) 68 2 (f 68 2 + 1) 69 (n * 4 + 1) = nI w from hw]
  refine wp_aload_n hX (dk DX0_takeBack 33 rfl) rfl ?_
  refine w_getr hX flX0_11 (dk DX0_takeBack 34 rfl) rfl rfl ?_
  refine wp_iload_n hX (dk DX0_takeBack 35 rfl) rfl ?_
  refine wp_iconst (v := 2) hX (dk DX0_takeBack 36 rfl) (by decide) ?_
  refine wp_iadd hX (dk DX0_takeBack 37 rfl) ?_
  refine w_iald (j := (n * 4 + 2)) hX (dk DX0_takeBack 38 rfl) rfl (nI_add (n * 4) 2) (show _ < 160 by omega) ?_
  refine w_callV (As := [_, _, _]) lkX0_28 hX (dk DX0_takeBack 39 rfl) rfl rfl (by decide) hN (k_setTrait d sw _ g i w _ hi10 hw3) ?_
  show WP _ _ _ 63 [_, _, _] [] _
  refine wp_aload_n hX (dk DX0_takeBack 40 rfl) rfl ?_
  refine w_geti hX flX0_15 (dk DX0_takeBack 41 rfl) (by decide) rfl ?_
  rw [show u2 (u2 (u2 f 68 1 (nI n)) 68 2 (f 68 2 + 1)) 3 (i * 3 + w) (u2 (u2 f 68 1 (nI n)) 68 2 (f 68 2 + 1) 69 (n * 4 + 2)) 68 1 = nI n by rw [u2_ne _ _ _ (by decide), u2_off _ _ _ (by decide), u2_at]]
  exact wp_ireturn hX hR (dk DX0_takeBack 42 rfl) rfl (Nat.le_refl _) (Nat.le_refl _) (⟨rfl, rfl⟩)
theorem k_doAgain0 (d : Nat) (sw : Bool) (f : Nat → Nat → Int32) (g : Nat → Nat → Int64) (h : f 68 2 = nI 0) : CT (d + 1) 0 0 iX0_doAgain [.ref 68, .ref 1] (S sw f g) (QR (some (.int (-5))) (S sw f g)) := by
  refine CT.of rfl (Nat.le_of_ble_eq_true rfl) (fun X hX hR hN _ => ?_)
  have hX : Good X RX0 cX0_doAgain (d + 1) 0 0 := hX
  have hN : x_nl X = 3 := hN
  show WP X 0 0 0 [_, _, _] [] _
  refine wp_aload_n hX (dk DX0_doAgain 0 rfl) rfl ?_
  refine w_geti hX flX0_25 (dk DX0_doAgain 1 rfl) (by decide) rfl ?_
  refine wp_if_ne (tgt := 10) hX (dk DX0_doAgain 2 rfl) (by decide) (fun h_ => absurd (h) h_) (fun _ => ?_)
  refine wp_bipush (v := -5) hX (dk DX0_doAgain 3 rfl) (by decide) ?_
  exact wp_ireturn hX hR (dk DX0_doAgain 4 rfl) rfl (Nat.le_refl _) (Nat.le_refl _) (⟨rfl, rfl⟩)
theorem k_doAgain (d : Nat) (sw : Bool) (f : Nat → Nat → Int32) (g : Nat → Nat → Int64) (n m i w : Nat) (hn : n < 40) (hm : m < 40) (h : f 68 1 = nI n) (h2 : f 68 2 = nI (m + 1)) (hi : f 69 (n * 4) = nI i) (hw : f 69 (n * 4 + 1) = nI w) (hi10 : i < 10) (hw3 : w < 3) : CT (d + 1) 0 0 iX0_doAgain [.ref 68, .ref 1] (S sw f g) (QR (some (.int (nI m))) (S sw (u2 (u2 (u2 f 3 (i * 3 + w) (f 69 (n * 4 + 3))) 68 1 (nI (n + 1))) 68 2 (nI m)) g)) := by
  refine CT.of rfl (Nat.le_of_ble_eq_true rfl) (fun X hX hR hN _ => ?_)
  have hX : Good X RX0 cX0_doAgain (d + 1) 0 0 := hX
  have hN : x_nl X = 3 := hN
  show WP X 0 0 0 [_, _, _] [] _
  refine wp_aload_n hX (dk DX0_doAgain 0 rfl) rfl ?_
  refine w_geti hX flX0_25 (dk DX0_doAgain 1 rfl) (by decide) rfl ?_
  refine wp_if_ne (tgt := 10) hX (dk DX0_doAgain 2 rfl) (by decide) (fun _ => ?_) (fun h_ => absurd h_ ((by rw [h2]; exact nI_ne0 (by omega) (by omega))))
  refine wp_aload_n hX (dk DX0_doAgain 5 rfl) rfl ?_
  refine w_geti hX flX0_15 (dk DX0_doAgain 6 rfl) (by decide) rfl ?_
  rw [h]
  refine wp_iconst (v := 4) hX (dk DX0_doAgain 7 rfl) (by decide) ?_
  refine wp_imul hX (dk DX0_doAgain 8 rfl) ?_
  rw [ix4]
  refine wp_istore_n hX (dk DX0_doAgain 9 rfl) rfl rfl hN (Nat.le_of_ble_eq_true rfl) ?_
  show WP _ _ _ 17 [_, _, _] [] _
  refine wp_aload_n hX (dk DX0_doAgain 10 rfl) rfl ?_
  refine wp_aload_n hX (dk DX0_doAgain 11 rfl) rfl ?_
  refine w_getr hX flX0_11 (dk DX0_doAgain 12 rfl) rfl rfl ?_
  refine wp_iload_n hX (dk DX0_doAgain 13 rfl) rfl ?_
  refine w_iald (j := (n * 4)) hX (dk DX0_doAgain 14 rfl) rfl rfl (show _ < 160 by omega) ?_
  rw [hi]
  refine wp_aload_n hX (dk DX0_doAgain 15 rfl) rfl ?_
  refine w_getr hX flX0_11 (dk DX0_doAgain 16 rfl) rfl rfl ?_
  refine wp_iload_n hX (dk DX0_doAgain 17 rfl) rfl ?_
  refine wp_iconst (v := 1) hX (dk DX0_doAgain 18 rfl) (by decide) ?_
  refine wp_iadd hX (dk DX0_doAgain 19 rfl) ?_
  refine w_iald (j := (n * 4 + 1)) hX (dk DX0_doAgain 20 rfl) rfl (nI_add (n * 4) 1) (show _ < 160 by omega) ?_
  rw [hw]
  refine wp_aload_n hX (dk DX0_doAgain 21 rfl) rfl ?_
  refine w_getr hX flX0_11 (dk DX0_doAgain 22 rfl) rfl rfl ?_
  refine wp_iload_n hX (dk DX0_doAgain 23 rfl) rfl ?_
  refine wp_iconst (v := 3) hX (dk DX0_doAgain 24 rfl) (by decide) ?_
  refine wp_iadd hX (dk DX0_doAgain 25 rfl) ?_
  refine w_iald (j := (n * 4 + 3)) hX (dk DX0_doAgain 26 rfl) rfl (nI_add (n * 4) 3) (show _ < 160 by omega) ?_
  refine w_callV (As := [_, _, _]) lkX0_28 hX (dk DX0_doAgain 27 rfl) rfl rfl (by decide) hN (k_setTrait d sw _ g i w _ hi10 hw3) ?_
  show WP _ _ _ 43 [_, _, _] [] _
  refine wp_aload_n hX (dk DX0_doAgain 28 rfl) rfl ?_
  refine wp_dup hX (dk DX0_doAgain 29 rfl) rfl ?_
  refine w_geti hX flX0_15 (dk DX0_doAgain 30 rfl) (by decide) rfl ?_
  rw [show u2 f 3 (i * 3 + w) (f 69 (n * 4 + 3)) 68 1 = nI n from h]
  refine wp_iconst (v := 1) hX (dk DX0_doAgain 31 rfl) (by decide) ?_
  refine wp_iadd hX (dk DX0_doAgain 32 rfl) ?_
  rw [nI_1]
  refine w_puti hX fpX0_15 (dk DX0_doAgain 33 rfl) rfl ?_
  refine wp_aload_n hX (dk DX0_doAgain 34 rfl) rfl ?_
  refine wp_dup hX (dk DX0_doAgain 35 rfl) rfl ?_
  refine w_geti hX flX0_25 (dk DX0_doAgain 36 rfl) (by decide) rfl ?_
  rw [show u2 (u2 f 3 (i * 3 + w) (f 69 (n * 4 + 3))) 68 1 (nI (n + 1)) 68 2 = nI (m + 1) from (u2_off _ _ _ (by decide)).trans h2]
  refine wp_iconst (v := 1) hX (dk DX0_doAgain 37 rfl) (by decide) ?_
  refine wp_isub hX (dk DX0_doAgain 38 rfl) ?_
  rw [nI_pred]
  refine w_puti hX fpX0_25 (dk DX0_doAgain 39 rfl) rfl ?_
  refine wp_aload_n hX (dk DX0_doAgain 40 rfl) rfl ?_
  refine w_geti hX flX0_25 (dk DX0_doAgain 41 rfl) (by decide) rfl ?_
  rw [u2_at]
  exact wp_ireturn hX hR (dk DX0_doAgain 42 rfl) rfl (Nat.le_refl _) (Nat.le_refl _) (⟨rfl, rfl⟩)
theorem k_shas (d : Nat) (sw : Bool) (f : Nat → Nat → Int32) (g : Nat → Nat → Int64) (x : Int32) : CT d 0 0 iX4_has [.ref 73, .int x] (S sw f g) (QR (some (.int (jin x 6))) (S sw f g)) := by
  refine CT.of rfl (Nat.le_of_ble_eq_true rfl) (fun X hX hR hN _ => ?_)
  have hX : Good X RX4 cX4_has d 0 0 := hX
  have hN : x_nl X = 2 := hN
  show WP X 0 0 0 [_, _] [] _
  refine wp_iload_n hX (dk DX4_has 0 rfl) rfl ?_
  refine wp_if_lt (tgt := 14) hX (dk DX4_has 1 rfl) (by decide) (fun h => ?_) (fun h => ?_)
  · refine wp_iconst (v := 0) hX (dk DX4_has 7 rfl) (by decide) ?_
    exact wp_ireturn hX hR (dk DX4_has 8 rfl) rfl (Nat.le_refl _) (Nat.le_refl _) (⟨by rw [jin, if_neg (fun q => q.1 h)], rfl⟩)
  · refine wp_iload_n hX (dk DX4_has 2 rfl) rfl ?_
    refine wp_bipush (v := 6) hX (dk DX4_has 3 rfl) (by decide) ?_
    refine wp_icmp_ge (tgt := 14) hX (dk DX4_has 4 rfl) (by decide) (fun h2 => ?_) (fun h2 => ?_)
    · refine wp_iconst (v := 0) hX (dk DX4_has 7 rfl) (by decide) ?_
      exact wp_ireturn hX hR (dk DX4_has 8 rfl) rfl (Nat.le_refl _) (Nat.le_refl _) (⟨by rw [jin, if_neg (fun q => Int32.not_lt.mpr h2 q.2)], rfl⟩)
    · refine wp_iconst (v := 1) hX (dk DX4_has 5 rfl) (by decide) ?_
      refine wp_goto (tgt := 15) hX (dk DX4_has 6 rfl) (by decide) ?_
      -- to 15
      exact wp_ireturn hX hR (dk DX4_has 8 rfl) rfl (Nat.le_refl _) (Nat.le_refl _) (⟨by rw [jin, if_pos ⟨h, Int32.not_le.mp h2⟩], rfl⟩)
theorem k_sortOf (d : Nat) (sw : Bool) (f : Nat → Nat → Int32) (g : Nat → Nat → Int64) (b : Nat) (hb : b < 6) : CT d 0 0 iX4_sortOf [.ref 73, .int (nI b)] (S sw f g) (QR (some (.int (f 74 b))) (S sw f g)) := by
  refine CT.of rfl (Nat.le_of_ble_eq_true rfl) (fun X hX hR hN _ => ?_)
  have hX : Good X RX4 cX4_sortOf d 0 0 := hX
  have hN : x_nl X = 2 := hN
  show WP X 0 0 0 [_, _] [] _
  refine wp_aload_n hX (dk DX4_sortOf 0 rfl) rfl ?_
  refine w_getr hX flX4_9 (dk DX4_sortOf 1 rfl) rfl rfl ?_
  refine wp_iload_n hX (dk DX4_sortOf 2 rfl) rfl ?_
  refine w_iald (j := _) hX (dk DX4_sortOf 3 rfl) rfl rfl (show _ < 6 by omega) ?_
  exact wp_ireturn hX hR (dk DX4_sortOf 4 rfl) rfl (Nat.le_refl _) (Nat.le_refl _) (⟨rfl, rfl⟩)
theorem k_isRow (d : Nat) (sw : Bool) (f : Nat → Nat → Int32) (g : Nat → Nat → Int64) (b : Nat) (hb : b < 6) : CT d 0 0 iX4_isRow [.ref 73, .int (nI b)] (S sw f g) (QR (some (.int (jin (f 74 b) 5))) (S sw f g)) := by
  refine CT.of rfl (Nat.le_of_ble_eq_true rfl) (fun X hX hR hN _ => ?_)
  have hX : Good X RX4 cX4_isRow d 0 0 := hX
  have hN : x_nl X = 2 := hN
  show WP X 0 0 0 [_, _] [] _
  refine wp_aload_n hX (dk DX4_isRow 0 rfl) rfl ?_
  refine w_getr hX flX4_9 (dk DX4_isRow 1 rfl) rfl rfl ?_
  refine wp_iload_n hX (dk DX4_isRow 2 rfl) rfl ?_
  refine w_iald (j := _) hX (dk DX4_isRow 3 rfl) rfl rfl (show _ < 6 by omega) ?_
  refine wp_if_lt (tgt := 23) hX (dk DX4_isRow 4 rfl) (by decide) (fun h => ?_) (fun h => ?_)
  · refine wp_iconst (v := 0) hX (dk DX4_isRow 13 rfl) (by decide) ?_
    exact wp_ireturn hX hR (dk DX4_isRow 14 rfl) rfl (Nat.le_refl _) (Nat.le_refl _) (⟨by rw [jin, if_neg (fun q => q.1 h)], rfl⟩)
  · refine wp_aload_n hX (dk DX4_isRow 5 rfl) rfl ?_
    refine w_getr hX flX4_9 (dk DX4_isRow 6 rfl) rfl rfl ?_
    refine wp_iload_n hX (dk DX4_isRow 7 rfl) rfl ?_
    refine w_iald (j := _) hX (dk DX4_isRow 8 rfl) rfl rfl (show _ < 6 by omega) ?_
    refine wp_iconst (v := 5) hX (dk DX4_isRow 9 rfl) (by decide) ?_
    refine wp_icmp_ge (tgt := 23) hX (dk DX4_isRow 10 rfl) (by decide) (fun h2 => ?_) (fun h2 => ?_)
    · refine wp_iconst (v := 0) hX (dk DX4_isRow 13 rfl) (by decide) ?_
      exact wp_ireturn hX hR (dk DX4_isRow 14 rfl) rfl (Nat.le_refl _) (Nat.le_refl _) (⟨by rw [jin, if_neg (fun q => Int32.not_lt.mpr h2 q.2)], rfl⟩)
    · refine wp_iconst (v := 1) hX (dk DX4_isRow 11 rfl) (by decide) ?_
      refine wp_goto (tgt := 24) hX (dk DX4_isRow 12 rfl) (by decide) ?_
      -- to 24
      exact wp_ireturn hX hR (dk DX4_isRow 14 rfl) rfl (Nat.le_refl _) (Nat.le_refl _) (⟨by rw [jin, if_pos ⟨h, Int32.not_le.mp h2⟩], rfl⟩)
theorem k_sizeOf (d : Nat) (sw : Bool) (f : Nat → Nat → Int32) (g : Nat → Nat → Int64) (b : Nat) (hb : b < 6) : CT d 0 0 iX4_sizeOf [.ref 73, .int (nI b)] (S sw f g) (QR (some (.int (f 75 b))) (S sw f g)) := by
  refine CT.of rfl (Nat.le_of_ble_eq_true rfl) (fun X hX hR hN _ => ?_)
  have hX : Good X RX4 cX4_sizeOf d 0 0 := hX
  have hN : x_nl X = 2 := hN
  show WP X 0 0 0 [_, _] [] _
  refine wp_aload_n hX (dk DX4_sizeOf 0 rfl) rfl ?_
  refine w_getr hX flX4_13 (dk DX4_sizeOf 1 rfl) rfl rfl ?_
  refine wp_iload_n hX (dk DX4_sizeOf 2 rfl) rfl ?_
  refine w_iald (j := _) hX (dk DX4_sizeOf 3 rfl) rfl rfl (show _ < 6 by omega) ?_
  exact wp_ireturn hX hR (dk DX4_sizeOf 4 rfl) rfl (Nat.le_refl _) (Nat.le_refl _) (⟨rfl, rfl⟩)
theorem k_set (d : Nat) (sw : Bool) (f : Nat → Nat → Int32) (g : Nat → Nat → Int64) (b : Nat) (x y : Int32) (hb : b < 6) : CT d 0 0 iX4_set [.ref 73, .int (nI b), .int x, .int y] (S sw f g) (QR none (S sw (u2 (u2 f 74 b x) 75 b y) g)) := by
  refine CT.of rfl (Nat.le_of_ble_eq_true rfl) (fun X hX hR hN _ => ?_)
  have hX : Good X RX4 cX4_set d 0 0 := hX
  have hN : x_nl X = 4 := hN
  show WP X 0 0 0 [_, _, _, _] [] _
  refine wp_aload_n hX (dk DX4_set 0 rfl) rfl ?_
  refine w_getr hX flX4_9 (dk DX4_set 1 rfl) rfl rfl ?_
  refine wp_iload_n hX (dk DX4_set 2 rfl) rfl ?_
  refine wp_iload_n hX (dk DX4_set 3 rfl) rfl ?_
  refine w_iast (j := _) hX (dk DX4_set 4 rfl) rfl rfl (show _ < 6 by omega) ?_
  refine wp_aload_n hX (dk DX4_set 5 rfl) rfl ?_
  refine w_getr hX flX4_13 (dk DX4_set 6 rfl) rfl rfl ?_
  refine wp_iload_n hX (dk DX4_set 7 rfl) rfl ?_
  refine wp_iload_n hX (dk DX4_set 8 rfl) rfl ?_
  refine w_iast (j := _) hX (dk DX4_set 9 rfl) rfl rfl (show _ < 6 by omega) ?_
  exact wp_return hX hR (dk DX4_set 10 rfl) (Nat.le_refl _) (Nat.le_refl _) (⟨rfl, rfl⟩)
theorem ix60 (a b : Nat) : nI a * 60 + nI b = nI (a * 60 + b) := by rw [show (60 : Int32) = nI 60 from rfl, pk_mul, nI_add]
/-- the first k elements of a shelf's stretch become 0 -/
def jemp (r : Nat → Int64) (b k : Nat) : Nat → Int64 := fun j => if b * 60 ≤ j ∧ j < b * 60 + k then 0 else r j
theorem k_empty (d : Nat) (sw : Bool) (f : Nat → Nat → Int32) (g : Nat → Nat → Int64) (b : Nat) (hb : b < 6) : CT d 0 0 iX4_empty [.ref 73, .int (nI b)] (S sw f g) (QR none (S sw f (u1 g 76 (jemp (g 76) b 60)))) := by
  refine CT.of rfl (Nat.le_of_ble_eq_true rfl) (fun X hX hR hN _ => ?_)
  have hX : Good X RX4 cX4_empty d 0 0 := hX
  have hN : x_nl X = 3 := hN
  show WP X 0 0 0 [_, _, _] [] _
  refine wp_iconst (v := 0) hX (dk DX4_empty 0 rfl) (by decide) ?_
  refine wp_istore_n hX (dk DX4_empty 1 rfl) rfl rfl hN (Nat.le_of_ble_eq_true rfl) ?_
  show WP _ _ _ 2 [_, _, _] [] _
  have lo : ∀ (m i : Nat), i + m = 60 → WP X 0 0 2 [some (.ref 73), some (.int (nI b)), some (.int (nI i))] [] (S sw f (u1 g 76 (jemp (g 76) b i))) := by
    intro m
    induction m with
    | zero =>
      intro i hi
      obtain rfl : i = 60 := by omega
      refine wp_iload_n hX (dk DX4_empty 2 rfl) rfl ?_
      refine wp_bipush (v := 60) hX (dk DX4_empty 3 rfl) (by decide) ?_
      refine wp_icmp_ge (tgt := 26) hX (dk DX4_empty 4 rfl) (by decide) (fun _ => ?_) (fun h_ => absurd ((by decide)) h_)
      exact wp_return hX hR (dk DX4_empty 16 rfl) (Nat.le_refl _) (Nat.le_refl _) (⟨rfl, rfl⟩)
    | succ m ih =>
      intro i hi
      refine wp_iload_n hX (dk DX4_empty 2 rfl) rfl ?_
      refine wp_bipush (v := 60) hX (dk DX4_empty 3 rfl) (by decide) ?_
      refine wp_icmp_ge (tgt := 26) hX (dk DX4_empty 4 rfl) (by decide) (fun h_ => absurd h_ ((nI_ge (b := 60) (by omega) (by omega)))) (fun _ => ?_)
      refine wp_aload_n hX (dk DX4_empty 5 rfl) rfl ?_
      refine w_getr hX flX4_16 (dk DX4_empty 6 rfl) rfl rfl ?_
      refine wp_iload_n hX (dk DX4_empty 7 rfl) rfl ?_
      refine wp_bipush (v := 60) hX (dk DX4_empty 8 rfl) (by decide) ?_
      refine wp_imul hX (dk DX4_empty 9 rfl) ?_
      refine wp_iload_n hX (dk DX4_empty 10 rfl) rfl ?_
      refine wp_iadd hX (dk DX4_empty 11 rfl) ?_
      refine wp_lconst (v := 0) hX (dk DX4_empty 12 rfl) (by decide) ?_
      refine w_last (j := (b * 60 + i)) hX (dk DX4_empty 13 rfl) rfl (ix60 b i) (show _ < 360 by omega) ?_
      refine wp_iinc hX (dk DX4_empty 14 rfl) rfl (nI_inc _) rfl hN ?_
      show WP _ _ _ 23 [_, _, _] [] _
      refine wp_goto (tgt := 2) hX (dk DX4_empty 15 rfl) (by decide) ?_
      -- to 2
      have e : u2 (u1 g 76 (jemp (g 76) b i)) 76 (b * 60 + i) 0 = u1 g 76 (jemp (g 76) b (i + 1)) := by
        funext c j
        unfold u2 u1 jemp
        by_cases hc : c = 76
        · subst hc
          simp only [if_true]
          by_cases hj : j = b * 60 + i
          · rw [if_pos hj, if_pos (by omega)]
          · rw [if_neg hj]
            by_cases h3 : b * 60 ≤ j ∧ j < b * 60 + i
            · rw [if_pos h3, if_pos (by omega)]
            · rw [if_neg h3, if_neg (by omega)]
        · simp only [if_neg hc]
      have := ih (i + 1) (by omega)
      rw [← e] at this
      exact this
  have e0 : u1 g 76 (jemp (g 76) b 0) = g := by
    funext c
    unfold u1 jemp
    by_cases hc : c = 76
    · subst hc
      rw [if_pos rfl]
      funext j
      rw [if_neg (by omega)]
    · rw [if_neg hc]
  have := lo 60 0 rfl
  rw [e0] at this
  exact this
/-- a stretch of n from i on lies in a row of sz -/
def jstr (sz i n : Int32) : Int32 := if ¬ i < 0 ∧ ¬ n < 0 ∧ ¬ sz < n ∧ ¬ sz - n < i then 1 else 0
theorem k_hasStretch (d : Nat) (sw : Bool) (f : Nat → Nat → Int32) (g : Nat → Nat → Int64) (b : Nat) (i n : Int32) (hb : b < 6) : CT d 0 0 iX4_hasStretch [.ref 73, .int (nI b), .int i, .int n] (S sw f g) (QR (some (.int (jstr (f 75 b) i n))) (S sw f g)) := by
  refine CT.of rfl (Nat.le_of_ble_eq_true rfl) (fun X hX hR hN _ => ?_)
  have hX : Good X RX4 cX4_hasStretch d 0 0 := hX
  have hN : x_nl X = 4 := hN
  show WP X 0 0 0 [_, _, _, _] [] _
  refine wp_iload_n hX (dk DX4_hasStretch 0 rfl) rfl ?_
  refine wp_if_lt (tgt := 34) hX (dk DX4_hasStretch 1 rfl) (by decide) (fun h1 => ?_) (fun h1 => ?_)
  · refine wp_iconst (v := 0) hX (dk DX4_hasStretch 20 rfl) (by decide) ?_
    exact wp_ireturn hX hR (dk DX4_hasStretch 21 rfl) rfl (Nat.le_refl _) (Nat.le_refl _) (⟨by rw [jstr, if_neg (fun q => q.1 h1)], rfl⟩)
  · refine wp_iload_n hX (dk DX4_hasStretch 2 rfl) rfl ?_
    refine wp_if_lt (tgt := 34) hX (dk DX4_hasStretch 3 rfl) (by decide) (fun h2 => ?_) (fun h2 => ?_)
    · refine wp_iconst (v := 0) hX (dk DX4_hasStretch 20 rfl) (by decide) ?_
      exact wp_ireturn hX hR (dk DX4_hasStretch 21 rfl) rfl (Nat.le_refl _) (Nat.le_refl _) (⟨by rw [jstr, if_neg (fun q => q.2.1 h2)], rfl⟩)
    · refine wp_iload_n hX (dk DX4_hasStretch 4 rfl) rfl ?_
      refine wp_aload_n hX (dk DX4_hasStretch 5 rfl) rfl ?_
      refine w_getr hX flX4_13 (dk DX4_hasStretch 6 rfl) rfl rfl ?_
      refine wp_iload_n hX (dk DX4_hasStretch 7 rfl) rfl ?_
      refine w_iald (j := _) hX (dk DX4_hasStretch 8 rfl) rfl rfl (show _ < 6 by omega) ?_
      refine wp_icmp_gt (tgt := 34) hX (dk DX4_hasStretch 9 rfl) (by decide) (fun h3 => ?_) (fun h3 => ?_)
      · refine wp_iconst (v := 0) hX (dk DX4_hasStretch 20 rfl) (by decide) ?_
        exact wp_ireturn hX hR (dk DX4_hasStretch 21 rfl) rfl (Nat.le_refl _) (Nat.le_refl _) (⟨by rw [jstr, if_neg (fun q => q.2.2.1 h3)], rfl⟩)
      · refine wp_iload_n hX (dk DX4_hasStretch 10 rfl) rfl ?_
        refine wp_aload_n hX (dk DX4_hasStretch 11 rfl) rfl ?_
        refine w_getr hX flX4_13 (dk DX4_hasStretch 12 rfl) rfl rfl ?_
        refine wp_iload_n hX (dk DX4_hasStretch 13 rfl) rfl ?_
        refine w_iald (j := _) hX (dk DX4_hasStretch 14 rfl) rfl rfl (show _ < 6 by omega) ?_
        refine wp_iload_n hX (dk DX4_hasStretch 15 rfl) rfl ?_
        refine wp_isub hX (dk DX4_hasStretch 16 rfl) ?_
        refine wp_icmp_gt (tgt := 34) hX (dk DX4_hasStretch 17 rfl) (by decide) (fun h4 => ?_) (fun h4 => ?_)
        · refine wp_iconst (v := 0) hX (dk DX4_hasStretch 20 rfl) (by decide) ?_
          exact wp_ireturn hX hR (dk DX4_hasStretch 21 rfl) rfl (Nat.le_refl _) (Nat.le_refl _) (⟨by rw [jstr, if_neg (fun q => q.2.2.2 h4)], rfl⟩)
        · refine wp_iconst (v := 1) hX (dk DX4_hasStretch 18 rfl) (by decide) ?_
          refine wp_goto (tgt := 35) hX (dk DX4_hasStretch 19 rfl) (by decide) ?_
          -- to 35
          exact wp_ireturn hX hR (dk DX4_hasStretch 21 rfl) rfl (Nat.le_refl _) (Nat.le_refl _) (⟨by rw [jstr, if_pos ⟨h1, h2, h3, h4⟩], rfl⟩)
theorem k_at (d : Nat) (sw : Bool) (f : Nat → Nat → Int32) (g : Nat → Nat → Int64) (b i : Nat) (hb : b < 6) (hi : i < 60) : CT d 0 0 iX4_at [.ref 73, .int (nI b), .int (nI i)] (S sw f g) (QR (some (.long (g 76 (b * 60 + i)))) (S sw f g)) := by
  refine CT.of rfl (Nat.le_of_ble_eq_true rfl) (fun X hX hR hN _ => ?_)
  have hX : Good X RX4 cX4_at d 0 0 := hX
  have hN : x_nl X = 3 := hN
  show WP X 0 0 0 [_, _, _] [] _
  refine wp_aload_n hX (dk DX4_at 0 rfl) rfl ?_
  refine w_getr hX flX4_16 (dk DX4_at 1 rfl) rfl rfl ?_
  refine wp_iload_n hX (dk DX4_at 2 rfl) rfl ?_
  refine wp_bipush (v := 60) hX (dk DX4_at 3 rfl) (by decide) ?_
  refine wp_imul hX (dk DX4_at 4 rfl) ?_
  refine wp_iload_n hX (dk DX4_at 5 rfl) rfl ?_
  refine wp_iadd hX (dk DX4_at 6 rfl) ?_
  refine w_lald (j := (b * 60 + i)) hX (dk DX4_at 7 rfl) rfl (ix60 b i) (show _ < 360 by omega) ?_
  exact wp_lreturn hX hR (dk DX4_at 8 rfl) (Nat.le_refl _) (Nat.le_refl _) (⟨rfl, rfl⟩)
/-- what is put in keeps its lowest bits -/
def jnar (k : Nat) (v : Int64) : Int64 := match k with
  | 0 => v.toInt32.toInt8.toInt32.toInt64
  | 1 => v.toInt32.toInt16.toInt32.toInt64
  | 2 => v.toInt32.toInt64
  | 4 => if v = 0 then 0 else 1
  | _ => v
theorem k_narrowed (d : Nat) (sw : Bool) (f : Nat → Nat → Int32) (g : Nat → Nat → Int64) (k : Nat) (v : Int64) (hk : k < 5) : CT d 0 0 iX4_narrowed [.int (nI k), .long v] (S sw f g) (QR (some (.long (jnar k v))) (S sw f g)) := by
  refine CT.of rfl (Nat.le_of_ble_eq_true rfl) (fun X hX hR hN _ => ?_)
  have hX : Good X RX4 cX4_narrowed d 0 0 := hX
  have hN : x_nl X = 3 := hN
  show WP X 0 0 0 [_, _, _] [] _
  refine wp_iload_n hX (dk DX4_narrowed 0 rfl) rfl ?_
  rcases (show k = 0 ∨ k = 1 ∨ k = 2 ∨ k = 3 ∨ k = 4 by omega) with rfl | rfl | rfl | rfl | rfl
  · refine wp_tabIn (off := 35) (tgt := 36) hX (dk DX4_narrowed 1 rfl) (by decide) (by decide) (by decide) (by decide) ?_
    refine wp_lload_n hX (dk DX4_narrowed 2 rfl) rfl ?_
    refine wp_l2i hX (dk DX4_narrowed 3 rfl) ?_
    refine wp_i2b hX (dk DX4_narrowed 4 rfl) ?_
    refine wp_i2l hX (dk DX4_narrowed 5 rfl) ?_
    exact wp_lreturn hX hR (dk DX4_narrowed 6 rfl) (Nat.le_refl _) (Nat.le_refl _) (⟨rfl, rfl⟩)
  · refine wp_tabIn (off := 40) (tgt := 41) hX (dk DX4_narrowed 1 rfl) (by decide) (by decide) (by decide) (by decide) ?_
    refine wp_lload_n hX (dk DX4_narrowed 7 rfl) rfl ?_
    refine wp_l2i hX (dk DX4_narrowed 8 rfl) ?_
    refine wp_i2s hX (dk DX4_narrowed 9 rfl) ?_
    refine wp_i2l hX (dk DX4_narrowed 10 rfl) ?_
    exact wp_lreturn hX hR (dk DX4_narrowed 11 rfl) (Nat.le_refl _) (Nat.le_refl _) (⟨rfl, rfl⟩)
  · refine wp_tabIn (off := 45) (tgt := 46) hX (dk DX4_narrowed 1 rfl) (by decide) (by decide) (by decide) (by decide) ?_
    refine wp_lload_n hX (dk DX4_narrowed 12 rfl) rfl ?_
    refine wp_l2i hX (dk DX4_narrowed 13 rfl) ?_
    refine wp_i2l hX (dk DX4_narrowed 14 rfl) ?_
    exact wp_lreturn hX hR (dk DX4_narrowed 15 rfl) (Nat.le_refl _) (Nat.le_refl _) (⟨rfl, rfl⟩)
  · refine wp_tabIn (off := 61) (tgt := 62) hX (dk DX4_narrowed 1 rfl) (by decide) (by decide) (by decide) (by decide) ?_
    refine wp_lload_n hX (dk DX4_narrowed 24 rfl) rfl ?_
    exact wp_lreturn hX hR (dk DX4_narrowed 25 rfl) (Nat.le_refl _) (Nat.le_refl _) (⟨rfl, rfl⟩)
  · refine wp_tabIn (off := 49) (tgt := 50) hX (dk DX4_narrowed 1 rfl) (by decide) (by decide) (by decide) (by decide) ?_
    refine wp_lload_n hX (dk DX4_narrowed 16 rfl) rfl ?_
    refine wp_lconst (v := 0) hX (dk DX4_narrowed 17 rfl) (by decide) ?_
    refine wp_lcmp hX (dk DX4_narrowed 18 rfl) ?_
    refine wp_if_eq (tgt := 60) hX (dk DX4_narrowed 19 rfl) (by decide) (fun h => ?_) (fun h => ?_)
    · refine wp_lconst (v := 0) hX (dk DX4_narrowed 22 rfl) (by decide) ?_
      exact wp_lreturn hX hR (dk DX4_narrowed 23 rfl) (Nat.le_refl _) (Nat.le_refl _) (⟨by rw [show jnar 4 v = if v = 0 then 0 else 1 from rfl, if_pos ((lg_cmp_eq v 0).mp h)], rfl⟩)
    · refine wp_lconst (v := 1) hX (dk DX4_narrowed 20 rfl) (by decide) ?_
      refine wp_goto (tgt := 61) hX (dk DX4_narrowed 21 rfl) (by decide) ?_
      -- to 61
      exact wp_lreturn hX hR (dk DX4_narrowed 23 rfl) (Nat.le_refl _) (Nat.le_refl _) (⟨by rw [show jnar 4 v = if v = 0 then 0 else 1 from rfl, if_neg (fun q => h ((lg_cmp_eq v 0).mpr q))], rfl⟩)
theorem k_write (d : Nat) (sw : Bool) (f : Nat → Nat → Int32) (g : Nat → Nat → Int64) (b i k : Nat) (v : Int64) (hb : b < 6) (hi : i < 60) (hk : f 74 b = nI k) (hk5 : k < 5) : CT (d + 1) 0 0 iX4_write [.ref 73, .int (nI b), .int (nI i), .long v] (S sw f g) (QR none (S sw f (u2 g 76 (b * 60 + i) (jnar k v)))) := by
  refine CT.of rfl (Nat.le_of_ble_eq_true rfl) (fun X hX hR hN _ => ?_)
  have hX : Good X RX4 cX4_write (d + 1) 0 0 := hX
  have hN : x_nl X = 5 := hN
  show WP X 0 0 0 [_, _, _, _, _] [] _
  refine wp_aload_n hX (dk DX4_write 0 rfl) rfl ?_
  refine w_getr hX flX4_16 (dk DX4_write 1 rfl) rfl rfl ?_
  refine wp_iload_n hX (dk DX4_write 2 rfl) rfl ?_
  refine wp_bipush (v := 60) hX (dk DX4_write 3 rfl) (by decide) ?_
  refine wp_imul hX (dk DX4_write 4 rfl) ?_
  refine wp_iload_n hX (dk DX4_write 5 rfl) rfl ?_
  refine wp_iadd hX (dk DX4_write 6 rfl) ?_
  refine wp_aload_n hX (dk DX4_write 7 rfl) rfl ?_
  refine w_getr hX flX4_9 (dk DX4_write 8 rfl) rfl rfl ?_
  refine wp_iload_n hX (dk DX4_write 9 rfl) rfl ?_
  refine w_iald (j := _) hX (dk DX4_write 10 rfl) rfl rfl (show _ < 6 by omega) ?_
  rw [hk]
  refine wp_lload_n hX (dk DX4_write 11 rfl) rfl ?_
  refine w_callS (As := [_, _]) lkX4_20 hX (dk DX4_write 12 rfl) rfl (by simp [Value.category]) (k_narrowed d sw f g k v hk5) ?_
  show WP _ _ _ 20 [_, _, _, _, _] [_, _, _] _
  refine w_last (j := (b * 60 + i)) hX (dk DX4_write 13 rfl) rfl (ix60 b i) (show _ < 360 by omega) ?_
  exact wp_return hX hR (dk DX4_write 14 rfl) (Nat.le_refl _) (Nat.le_refl _) (⟨rfl, rfl⟩)
theorem k_copy (d : Nat) (sw : Bool) (f : Nat → Nat → Int32) (g : Nat → Nat → Int64) (b i c j n : Nat) (hb : b < 6) (hc : c < 6) (hi : i + n ≤ 60) (hj : j + n ≤ 60) : CT (d + 1) 0 0 iX4_copy [.ref 73, .int (nI b), .int (nI i), .int (nI c), .int (nI j), .int (nI n)] (S sw f g) (QR none (S sw f (u1 g 76 (va_cpy (g 76) (g 76) (b * 60 + i) (c * 60 + j) n)))) := by
  refine CT.of rfl (Nat.le_of_ble_eq_true rfl) (fun X hX hR hN _ => ?_)
  have hX : Good X RX4 cX4_copy (d + 1) 0 0 := hX
  have hN : x_nl X = 6 := hN
  show WP X 0 0 0 [_, _, _, _, _, _] [] _
  refine wp_aload_n hX (dk DX4_copy 0 rfl) rfl ?_
  refine w_getr hX flX4_16 (dk DX4_copy 1 rfl) rfl rfl ?_
  refine wp_iload_n hX (dk DX4_copy 2 rfl) rfl ?_
  refine wp_bipush (v := 60) hX (dk DX4_copy 3 rfl) (by decide) ?_
  refine wp_imul hX (dk DX4_copy 4 rfl) ?_
  refine wp_iload_n hX (dk DX4_copy 5 rfl) rfl ?_
  refine wp_iadd hX (dk DX4_copy 6 rfl) ?_
  refine wp_aload_n hX (dk DX4_copy 7 rfl) rfl ?_
  refine w_getr hX flX4_16 (dk DX4_copy 8 rfl) rfl rfl ?_
  refine wp_iload_n hX (dk DX4_copy 9 rfl) rfl ?_
  refine wp_bipush (v := 60) hX (dk DX4_copy 10 rfl) (by decide) ?_
  refine wp_imul hX (dk DX4_copy 11 rfl) ?_
  refine wp_iload hX (dk DX4_copy 12 rfl) rfl ?_
  refine wp_iadd hX (dk DX4_copy 13 rfl) ?_
  refine wp_iload hX (dk DX4_copy 14 rfl) rfl ?_
  refine w_copyj (sp := (b * 60 + i)) (dp := (c * 60 + j)) (n := n) hX lkX4_24 (dk DX4_copy 15 rfl) (by decide) rfl rfl (ix60 b i) (ix60 c j) rfl (show _ ≤ 360 by omega) (show _ ≤ 360 by omega) ?_
  exact wp_return hX hR (dk DX4_copy 16 rfl) (Nat.le_refl _) (Nat.le_refl _) (⟨rfl, rfl⟩)
