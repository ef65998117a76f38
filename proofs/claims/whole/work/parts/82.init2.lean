/-! CONSTRUCTORS: contracts -/
theorem i_F6 (d : Nat) (f : Nat → Nat → Int32) (g : Nat → Nat → Int64) (P : List (Nat × Nat)) (hP : ∀ q ∈ P, q.1 < 6) (hz : zf 7 f g) : CT (d + 1) 3 204 iX1_init [.ref 6] (TT 7 f g ([(6, 0), (6, 1), (6, 2)] ++ P)) (QR none (TT 10 f g P)) := by
  refine CT.of rfl (Nat.le_of_ble_eq_true rfl) (fun X hX hR hN hin => ?_)
  have hX : Good X RX1 cX1_init (d + 1) 3 204 := hX
  have hN : x_nl X = 1 := hN
  show WP X 0 0 0 [_] [] _
  refine wp_aload_n hX (dk DX1_init 0 rfl) rfl ?_
  refine wp_obj hX lkX1_3 kin_obj kcd_obj (dk DX1_init 1 rfl) (by decide) ?_
  refine wp_aload_n hX (dk DX1_init 2 rfl) rfl ?_
  refine wp_iconst (v := 4) hX (dk DX1_init 3 rfl) (by decide) ?_
  refine t_newi (N := 4) hX (dk DX1_init 4 rfl) (by decide) (by decide) (by decide) (by decide) (by decide) (by decide) (old_c (old_r (by decide)) old_0) (lold_c (old_r (by decide)) lold_0) rfl rfl (hz.up (by decide)) ord7 (lt_P (A := [(6, 0), (6, 1), (6, 2)]) (by decide) hP (by decide)) ?_
  show WP _ _ _ 8 [_] [_, _] (TT 8 f g ([(6, 0), (6, 1), (6, 2)] ++ P))
  refine t_putF (A := []) (B := [(6, 1), (6, 2)] ++ P) hX (hin rfl) ffX1_11 (dk DX1_init 5 rfl) (by decide) rfl (by decide) rfl (by decide) (nin_P (A := [(6, 1), (6, 2)]) (by decide) hP) ?_
  show WP _ _ _ 11 [_] [] (TT 8 f g ([(6, 1), (6, 2)] ++ P))
  refine wp_aload_n hX (dk DX1_init 6 rfl) rfl ?_
  refine wp_bipush (v := 100) hX (dk DX1_init 7 rfl) (by decide) ?_
  refine t_newi (N := 100) hX (dk DX1_init 8 rfl) (by decide) (by decide) (by decide) (by decide) (by decide) (by decide) (old_c (old_r (by decide)) old_0) (lold_c (old_r (by decide)) lold_0) rfl rfl (hz.up (by decide)) ord8 (lt_P (A := [(6, 1), (6, 2)]) (by decide) hP (by decide)) ?_
  show WP _ _ _ 16 [_] [_, _] (TT 9 f g ([(6, 1), (6, 2)] ++ P))
  refine t_putF (A := []) (B := [(6, 2)] ++ P) hX (hin rfl) ffX1_15 (dk DX1_init 9 rfl) (by decide) rfl (by decide) rfl (by decide) (nin_P (A := [(6, 2)]) (by decide) hP) ?_
  show WP _ _ _ 19 [_] [] (TT 9 f g ([(6, 2)] ++ P))
  refine wp_aload_n hX (dk DX1_init 10 rfl) rfl ?_
  refine wp_bipush (v := 100) hX (dk DX1_init 11 rfl) (by decide) ?_
  refine t_newi (N := 100) hX (dk DX1_init 12 rfl) (by decide) (by decide) (by decide) (by decide) (by decide) (by decide) (old_c (old_r (by decide)) old_0) (lold_c (old_r (by decide)) lold_0) rfl rfl (hz.up (by decide)) ord9 (lt_P (A := [(6, 2)]) (by decide) hP (by decide)) ?_
  show WP _ _ _ 24 [_] [_, _] (TT 10 f g ([(6, 2)] ++ P))
  refine t_putF (A := []) (B := [] ++ P) hX (hin rfl) ffX1_18 (dk DX1_init 13 rfl) (by decide) rfl (by decide) rfl (by decide) (nin_P (A := []) (by decide) hP) ?_
  show WP _ _ _ 27 [_] [] (TT 10 f g ([] ++ P))
  exact wp_return hX hR (dk DX1_init 14 rfl) (by decide) (by decide) ⟨rfl, rfl⟩
theorem i_F10 (d : Nat) (f : Nat → Nat → Int32) (g : Nat → Nat → Int64) (P : List (Nat × Nat)) (hP : ∀ q ∈ P, q.1 < 10) (hz : zf 11 f g) : CT (d + 1) 3 204 iX1_init [.ref 10] (TT 11 f g ([(10, 0), (10, 1), (10, 2)] ++ P)) (QR none (TT 14 f g P)) := by
  refine CT.of rfl (Nat.le_of_ble_eq_true rfl) (fun X hX hR hN hin => ?_)
  have hX : Good X RX1 cX1_init (d + 1) 3 204 := hX
  have hN : x_nl X = 1 := hN
  show WP X 0 0 0 [_] [] _
  refine wp_aload_n hX (dk DX1_init 0 rfl) rfl ?_
  refine wp_obj hX lkX1_3 kin_obj kcd_obj (dk DX1_init 1 rfl) (by decide) ?_
  refine wp_aload_n hX (dk DX1_init 2 rfl) rfl ?_
  refine wp_iconst (v := 4) hX (dk DX1_init 3 rfl) (by decide) ?_
  refine t_newi (N := 4) hX (dk DX1_init 4 rfl) (by decide) (by decide) (by decide) (by decide) (by decide) (by decide) (old_c (old_r (by decide)) old_0) (lold_c (old_r (by decide)) lold_0) rfl rfl (hz.up (by decide)) ord11 (lt_P (A := [(10, 0), (10, 1), (10, 2)]) (by decide) hP (by decide)) ?_
  show WP _ _ _ 8 [_] [_, _] (TT 12 f g ([(10, 0), (10, 1), (10, 2)] ++ P))
  refine t_putF (A := []) (B := [(10, 1), (10, 2)] ++ P) hX (hin rfl) ffX1_11 (dk DX1_init 5 rfl) (by decide) rfl (by decide) rfl (by decide) (nin_P (A := [(10, 1), (10, 2)]) (by decide) hP) ?_
  show WP _ _ _ 11 [_] [] (TT 12 f g ([(10, 1), (10, 2)] ++ P))
  refine wp_aload_n hX (dk DX1_init 6 rfl) rfl ?_
  refine wp_bipush (v := 100) hX (dk DX1_init 7 rfl) (by decide) ?_
  refine t_newi (N := 100) hX (dk DX1_init 8 rfl) (by decide) (by decide) (by decide) (by decide) (by decide) (by decide) (old_c (old_r (by decide)) old_0) (lold_c (old_r (by decide)) lold_0) rfl rfl (hz.up (by decide)) ord12 (lt_P (A := [(10, 1), (10, 2)]) (by decide) hP (by decide)) ?_
  show WP _ _ _ 16 [_] [_, _] (TT 13 f g ([(10, 1), (10, 2)] ++ P))
  refine t_putF (A := []) (B := [(10, 2)] ++ P) hX (hin rfl) ffX1_15 (dk DX1_init 9 rfl) (by decide) rfl (by decide) rfl (by decide) (nin_P (A := [(10, 2)]) (by decide) hP) ?_
  show WP _ _ _ 19 [_] [] (TT 13 f g ([(10, 2)] ++ P))
  refine wp_aload_n hX (dk DX1_init 10 rfl) rfl ?_
  refine wp_bipush (v := 100) hX (dk DX1_init 11 rfl) (by decide) ?_
  refine t_newi (N := 100) hX (dk DX1_init 12 rfl) (by decide) (by decide) (by decide) (by decide) (by decide) (by decide) (old_c (old_r (by decide)) old_0) (lold_c (old_r (by decide)) lold_0) rfl rfl (hz.up (by decide)) ord13 (lt_P (A := [(10, 2)]) (by decide) hP (by decide)) ?_
  show WP _ _ _ 24 [_] [_, _] (TT 14 f g ([(10, 2)] ++ P))
  refine t_putF (A := []) (B := [] ++ P) hX (hin rfl) ffX1_18 (dk DX1_init 13 rfl) (by decide) rfl (by decide) rfl (by decide) (nin_P (A := []) (by decide) hP) ?_
  show WP _ _ _ 27 [_] [] (TT 14 f g ([] ++ P))
  exact wp_return hX hR (dk DX1_init 14 rfl) (by decide) (by decide) ⟨rfl, rfl⟩
theorem i_F14 (d : Nat) (f : Nat → Nat → Int32) (g : Nat → Nat → Int64) (P : List (Nat × Nat)) (hP : ∀ q ∈ P, q.1 < 14) (hz : zf 15 f g) : CT (d + 1) 3 204 iX1_init [.ref 14] (TT 15 f g ([(14, 0), (14, 1), (14, 2)] ++ P)) (QR none (TT 18 f g P)) := by
  refine CT.of rfl (Nat.le_of_ble_eq_true rfl) (fun X hX hR hN hin => ?_)
  have hX : Good X RX1 cX1_init (d + 1) 3 204 := hX
  have hN : x_nl X = 1 := hN
  show WP X 0 0 0 [_] [] _
  refine wp_aload_n hX (dk DX1_init 0 rfl) rfl ?_
  refine wp_obj hX lkX1_3 kin_obj kcd_obj (dk DX1_init 1 rfl) (by decide) ?_
  refine wp_aload_n hX (dk DX1_init 2 rfl) rfl ?_
  refine wp_iconst (v := 4) hX (dk DX1_init 3 rfl) (by decide) ?_
  refine t_newi (N := 4) hX (dk DX1_init 4 rfl) (by decide) (by decide) (by decide) (by decide) (by decide) (by decide) (old_c (old_r (by decide)) old_0) (lold_c (old_r (by decide)) lold_0) rfl rfl (hz.up (by decide)) ord15 (lt_P (A := [(14, 0), (14, 1), (14, 2)]) (by decide) hP (by decide)) ?_
  show WP _ _ _ 8 [_] [_, _] (TT 16 f g ([(14, 0), (14, 1), (14, 2)] ++ P))
  refine t_putF (A := []) (B := [(14, 1), (14, 2)] ++ P) hX (hin rfl) ffX1_11 (dk DX1_init 5 rfl) (by decide) rfl (by decide) rfl (by decide) (nin_P (A := [(14, 1), (14, 2)]) (by decide) hP) ?_
  show WP _ _ _ 11 [_] [] (TT 16 f g ([(14, 1), (14, 2)] ++ P))
  refine wp_aload_n hX (dk DX1_init 6 rfl) rfl ?_
  refine wp_bipush (v := 100) hX (dk DX1_init 7 rfl) (by decide) ?_
  refine t_newi (N := 100) hX (dk DX1_init 8 rfl) (by decide) (by decide) (by decide) (by decide) (by decide) (by decide) (old_c (old_r (by decide)) old_0) (lold_c (old_r (by decide)) lold_0) rfl rfl (hz.up (by decide)) ord16 (lt_P (A := [(14, 1), (14, 2)]) (by decide) hP (by decide)) ?_
  show WP _ _ _ 16 [_] [_, _] (TT 17 f g ([(14, 1), (14, 2)] ++ P))
  refine t_putF (A := []) (B := [(14, 2)] ++ P) hX (hin rfl) ffX1_15 (dk DX1_init 9 rfl) (by decide) rfl (by decide) rfl (by decide) (nin_P (A := [(14, 2)]) (by decide) hP) ?_
  show WP _ _ _ 19 [_] [] (TT 17 f g ([(14, 2)] ++ P))
  refine wp_aload_n hX (dk DX1_init 10 rfl) rfl ?_
  refine wp_bipush (v := 100) hX (dk DX1_init 11 rfl) (by decide) ?_
  refine t_newi (N := 100) hX (dk DX1_init 12 rfl) (by decide) (by decide) (by decide) (by decide) (by decide) (by decide) (old_c (old_r (by decide)) old_0) (lold_c (old_r (by decide)) lold_0) rfl rfl (hz.up (by decide)) ord17 (lt_P (A := [(14, 2)]) (by decide) hP (by decide)) ?_
  show WP _ _ _ 24 [_] [_, _] (TT 18 f g ([(14, 2)] ++ P))
  refine t_putF (A := []) (B := [] ++ P) hX (hin rfl) ffX1_18 (dk DX1_init 13 rfl) (by decide) rfl (by decide) rfl (by decide) (nin_P (A := []) (by decide) hP) ?_
  show WP _ _ _ 27 [_] [] (TT 18 f g ([] ++ P))
  exact wp_return hX hR (dk DX1_init 14 rfl) (by decide) (by decide) ⟨rfl, rfl⟩
theorem i_F18 (d : Nat) (f : Nat → Nat → Int32) (g : Nat → Nat → Int64) (P : List (Nat × Nat)) (hP : ∀ q ∈ P, q.1 < 18) (hz : zf 19 f g) : CT (d + 1) 3 204 iX1_init [.ref 18] (TT 19 f g ([(18, 0), (18, 1), (18, 2)] ++ P)) (QR none (TT 22 f g P)) := by
  refine CT.of rfl (Nat.le_of_ble_eq_true rfl) (fun X hX hR hN hin => ?_)
  have hX : Good X RX1 cX1_init (d + 1) 3 204 := hX
  have hN : x_nl X = 1 := hN
  show WP X 0 0 0 [_] [] _
  refine wp_aload_n hX (dk DX1_init 0 rfl) rfl ?_
  refine wp_obj hX lkX1_3 kin_obj kcd_obj (dk DX1_init 1 rfl) (by decide) ?_
  refine wp_aload_n hX (dk DX1_init 2 rfl) rfl ?_
  refine wp_iconst (v := 4) hX (dk DX1_init 3 rfl) (by decide) ?_
  refine t_newi (N := 4) hX (dk DX1_init 4 rfl) (by decide) (by decide) (by decide) (by decide) (by decide) (by decide) (old_c (old_r (by decide)) old_0) (lold_c (old_r (by decide)) lold_0) rfl rfl (hz.up (by decide)) ord19 (lt_P (A := [(18, 0), (18, 1), (18, 2)]) (by decide) hP (by decide)) ?_
  show WP _ _ _ 8 [_] [_, _] (TT 20 f g ([(18, 0), (18, 1), (18, 2)] ++ P))
  refine t_putF (A := []) (B := [(18, 1), (18, 2)] ++ P) hX (hin rfl) ffX1_11 (dk DX1_init 5 rfl) (by decide) rfl (by decide) rfl (by decide) (nin_P (A := [(18, 1), (18, 2)]) (by decide) hP) ?_
  show WP _ _ _ 11 [_] [] (TT 20 f g ([(18, 1), (18, 2)] ++ P))
  refine wp_aload_n hX (dk DX1_init 6 rfl) rfl ?_
  refine wp_bipush (v := 100) hX (dk DX1_init 7 rfl) (by decide) ?_
  refine t_newi (N := 100) hX (dk DX1_init 8 rfl) (by decide) (by decide) (by decide) (by decide) (by decide) (by decide) (old_c (old_r (by decide)) old_0) (lold_c (old_r (by decide)) lold_0) rfl rfl (hz.up (by decide)) ord20 (lt_P (A := [(18, 1), (18, 2)]) (by decide) hP (by decide)) ?_
  show WP _ _ _ 16 [_] [_, _] (TT 21 f g ([(18, 1), (18, 2)] ++ P))
  refine t_putF (A := []) (B := [(18, 2)] ++ P) hX (hin rfl) ffX1_15 (dk DX1_init 9 rfl) (by decide) rfl (by decide) rfl (by decide) (nin_P (A := [(18, 2)]) (by decide) hP) ?_
  show WP _ _ _ 19 [_] [] (TT 21 f g ([(18, 2)] ++ P))
  refine wp_aload_n hX (dk DX1_init 10 rfl) rfl ?_
  refine wp_bipush (v := 100) hX (dk DX1_init 11 rfl) (by decide) ?_
  refine t_newi (N := 100) hX (dk DX1_init 12 rfl) (by decide) (by decide) (by decide) (by decide) (by decide) (by decide) (old_c (old_r (by decide)) old_0) (lold_c (old_r (by decide)) lold_0) rfl rfl (hz.up (by decide)) ord21 (lt_P (A := [(18, 2)]) (by decide) hP (by decide)) ?_
  show WP _ _ _ 24 [_] [_, _] (TT 22 f g ([(18, 2)] ++ P))
  refine t_putF (A := []) (B := [] ++ P) hX (hin rfl) ffX1_18 (dk DX1_init 13 rfl) (by decide) rfl (by decide) rfl (by decide) (nin_P (A := []) (by decide) hP) ?_
  show WP _ _ _ 27 [_] [] (TT 22 f g ([] ++ P))
  exact wp_return hX hR (dk DX1_init 14 rfl) (by decide) (by decide) ⟨rfl, rfl⟩
theorem i_F22 (d : Nat) (f : Nat → Nat → Int32) (g : Nat → Nat → Int64) (P : List (Nat × Nat)) (hP : ∀ q ∈ P, q.1 < 22) (hz : zf 23 f g) : CT (d + 1) 3 204 iX1_init [.ref 22] (TT 23 f g ([(22, 0), (22, 1), (22, 2)] ++ P)) (QR none (TT 26 f g P)) := by
  refine CT.of rfl (Nat.le_of_ble_eq_true rfl) (fun X hX hR hN hin => ?_)
  have hX : Good X RX1 cX1_init (d + 1) 3 204 := hX
  have hN : x_nl X = 1 := hN
  show WP X 0 0 0 [_] [] _
  refine wp_aload_n hX (dk DX1_init 0 rfl) rfl ?_
  refine wp_obj hX lkX1_3 kin_obj kcd_obj (dk DX1_init 1 rfl) (by decide) ?_
  refine wp_aload_n hX (dk DX1_init 2 rfl) rfl ?_
  refine wp_iconst (v := 4) hX (dk DX1_init 3 rfl) (by decide) ?_
  refine t_newi (N := 4) hX (dk DX1_init 4 rfl) (by decide) (by decide) (by decide) (by decide) (by decide) (by decide) (old_c (old_r (by decide)) old_0) (lold_c (old_r (by decide)) lold_0) rfl rfl (hz.up (by decide)) ord23 (lt_P (A := [(22, 0), (22, 1), (22, 2)]) (by decide) hP (by decide)) ?_
  show WP _ _ _ 8 [_] [_, _] (TT 24 f g ([(22, 0), (22, 1), (22, 2)] ++ P))
  refine t_putF (A := []) (B := [(22, 1), (22, 2)] ++ P) hX (hin rfl) ffX1_11 (dk DX1_init 5 rfl) (by decide) rfl (by decide) rfl (by decide) (nin_P (A := [(22, 1), (22, 2)]) (by decide) hP) ?_
  show WP _ _ _ 11 [_] [] (TT 24 f g ([(22, 1), (22, 2)] ++ P))
  refine wp_aload_n hX (dk DX1_init 6 rfl) rfl ?_
  refine wp_bipush (v := 100) hX (dk DX1_init 7 rfl) (by decide) ?_
  refine t_newi (N := 100) hX (dk DX1_init 8 rfl) (by decide) (by decide) (by decide) (by decide) (by decide) (by decide) (old_c (old_r (by decide)) old_0) (lold_c (old_r (by decide)) lold_0) rfl rfl (hz.up (by decide)) ord24 (lt_P (A := [(22, 1), (22, 2)]) (by decide) hP (by decide)) ?_
  show WP _ _ _ 16 [_] [_, _] (TT 25 f g ([(22, 1), (22, 2)] ++ P))
  refine t_putF (A := []) (B := [(22, 2)] ++ P) hX (hin rfl) ffX1_15 (dk DX1_init 9 rfl) (by decide) rfl (by decide) rfl (by decide) (nin_P (A := [(22, 2)]) (by decide) hP) ?_
  show WP _ _ _ 19 [_] [] (TT 25 f g ([(22, 2)] ++ P))
  refine wp_aload_n hX (dk DX1_init 10 rfl) rfl ?_
  refine wp_bipush (v := 100) hX (dk DX1_init 11 rfl) (by decide) ?_
  refine t_newi (N := 100) hX (dk DX1_init 12 rfl) (by decide) (by decide) (by decide) (by decide) (by decide) (by decide) (old_c (old_r (by decide)) old_0) (lold_c (old_r (by decide)) lold_0) rfl rfl (hz.up (by decide)) ord25 (lt_P (A := [(22, 2)]) (by decide) hP (by decide)) ?_
  show WP _ _ _ 24 [_] [_, _] (TT 26 f g ([(22, 2)] ++ P))
  refine t_putF (A := []) (B := [] ++ P) hX (hin rfl) ffX1_18 (dk DX1_init 13 rfl) (by decide) rfl (by decide) rfl (by decide) (nin_P (A := []) (by decide) hP) ?_
  show WP _ _ _ 27 [_] [] (TT 26 f g ([] ++ P))
  exact wp_return hX hR (dk DX1_init 14 rfl) (by decide) (by decide) ⟨rfl, rfl⟩
theorem i_F26 (d : Nat) (f : Nat → Nat → Int32) (g : Nat → Nat → Int64) (P : List (Nat × Nat)) (hP : ∀ q ∈ P, q.1 < 26) (hz : zf 27 f g) : CT (d + 1) 3 204 iX1_init [.ref 26] (TT 27 f g ([(26, 0), (26, 1), (26, 2)] ++ P)) (QR none (TT 30 f g P)) := by
  refine CT.of rfl (Nat.le_of_ble_eq_true rfl) (fun X hX hR hN hin => ?_)
  have hX : Good X RX1 cX1_init (d + 1) 3 204 := hX
  have hN : x_nl X = 1 := hN
  show WP X 0 0 0 [_] [] _
  refine wp_aload_n hX (dk DX1_init 0 rfl) rfl ?_
  refine wp_obj hX lkX1_3 kin_obj kcd_obj (dk DX1_init 1 rfl) (by decide) ?_
  refine wp_aload_n hX (dk DX1_init 2 rfl) rfl ?_
  refine wp_iconst (v := 4) hX (dk DX1_init 3 rfl) (by decide) ?_
  refine t_newi (N := 4) hX (dk DX1_init 4 rfl) (by decide) (by decide) (by decide) (by decide) (by decide) (by decide) (old_c (old_r (by decide)) old_0) (lold_c (old_r (by decide)) lold_0) rfl rfl (hz.up (by decide)) ord27 (lt_P (A := [(26, 0), (26, 1), (26, 2)]) (by decide) hP (by decide)) ?_
  show WP _ _ _ 8 [_] [_, _] (TT 28 f g ([(26, 0), (26, 1), (26, 2)] ++ P))
  refine t_putF (A := []) (B := [(26, 1), (26, 2)] ++ P) hX (hin rfl) ffX1_11 (dk DX1_init 5 rfl) (by decide) rfl (by decide) rfl (by decide) (nin_P (A := [(26, 1), (26, 2)]) (by decide) hP) ?_
  show WP _ _ _ 11 [_] [] (TT 28 f g ([(26, 1), (26, 2)] ++ P))
  refine wp_aload_n hX (dk DX1_init 6 rfl) rfl ?_
  refine wp_bipush (v := 100) hX (dk DX1_init 7 rfl) (by decide) ?_
  refine t_newi (N := 100) hX (dk DX1_init 8 rfl) (by decide) (by decide) (by decide) (by decide) (by decide) (by decide) (old_c (old_r (by decide)) old_0) (lold_c (old_r (by decide)) lold_0) rfl rfl (hz.up (by decide)) ord28 (lt_P (A := [(26, 1), (26, 2)]) (by decide) hP (by decide)) ?_
  show WP _ _ _ 16 [_] [_, _] (TT 29 f g ([(26, 1), (26, 2)] ++ P))
  refine t_putF (A := []) (B := [(26, 2)] ++ P) hX (hin rfl) ffX1_15 (dk DX1_init 9 rfl) (by decide) rfl (by decide) rfl (by decide) (nin_P (A := [(26, 2)]) (by decide) hP) ?_
  show WP _ _ _ 19 [_] [] (TT 29 f g ([(26, 2)] ++ P))
  refine wp_aload_n hX (dk DX1_init 10 rfl) rfl ?_
  refine wp_bipush (v := 100) hX (dk DX1_init 11 rfl) (by decide) ?_
  refine t_newi (N := 100) hX (dk DX1_init 12 rfl) (by decide) (by decide) (by decide) (by decide) (by decide) (by decide) (old_c (old_r (by decide)) old_0) (lold_c (old_r (by decide)) lold_0) rfl rfl (hz.up (by decide)) ord29 (lt_P (A := [(26, 2)]) (by decide) hP (by decide)) ?_
  show WP _ _ _ 24 [_] [_, _] (TT 30 f g ([(26, 2)] ++ P))
  refine t_putF (A := []) (B := [] ++ P) hX (hin rfl) ffX1_18 (dk DX1_init 13 rfl) (by decide) rfl (by decide) rfl (by decide) (nin_P (A := []) (by decide) hP) ?_
  show WP _ _ _ 27 [_] [] (TT 30 f g ([] ++ P))
  exact wp_return hX hR (dk DX1_init 14 rfl) (by decide) (by decide) ⟨rfl, rfl⟩
theorem i_F30 (d : Nat) (f : Nat → Nat → Int32) (g : Nat → Nat → Int64) (P : List (Nat × Nat)) (hP : ∀ q ∈ P, q.1 < 30) (hz : zf 31 f g) : CT (d + 1) 3 204 iX1_init [.ref 30] (TT 31 f g ([(30, 0), (30, 1), (30, 2)] ++ P)) (QR none (TT 34 f g P)) := by
  refine CT.of rfl (Nat.le_of_ble_eq_true rfl) (fun X hX hR hN hin => ?_)
  have hX : Good X RX1 cX1_init (d + 1) 3 204 := hX
  have hN : x_nl X = 1 := hN
  show WP X 0 0 0 [_] [] _
  refine wp_aload_n hX (dk DX1_init 0 rfl) rfl ?_
  refine wp_obj hX lkX1_3 kin_obj kcd_obj (dk DX1_init 1 rfl) (by decide) ?_
  refine wp_aload_n hX (dk DX1_init 2 rfl) rfl ?_
  refine wp_iconst (v := 4) hX (dk DX1_init 3 rfl) (by decide) ?_
  refine t_newi (N := 4) hX (dk DX1_init 4 rfl) (by decide) (by decide) (by decide) (by decide) (by decide) (by decide) (old_c (old_r (by decide)) old_0) (lold_c (old_r (by decide)) lold_0) rfl rfl (hz.up (by decide)) ord31 (lt_P (A := [(30, 0), (30, 1), (30, 2)]) (by decide) hP (by decide)) ?_
  show WP _ _ _ 8 [_] [_, _] (TT 32 f g ([(30, 0), (30, 1), (30, 2)] ++ P))
  refine t_putF (A := []) (B := [(30, 1), (30, 2)] ++ P) hX (hin rfl) ffX1_11 (dk DX1_init 5 rfl) (by decide) rfl (by decide) rfl (by decide) (nin_P (A := [(30, 1), (30, 2)]) (by decide) hP) ?_
  show WP _ _ _ 11 [_] [] (TT 32 f g ([(30, 1), (30, 2)] ++ P))
  refine wp_aload_n hX (dk DX1_init 6 rfl) rfl ?_
  refine wp_bipush (v := 100) hX (dk DX1_init 7 rfl) (by decide) ?_
  refine t_newi (N := 100) hX (dk DX1_init 8 rfl) (by decide) (by decide) (by decide) (by decide) (by decide) (by decide) (old_c (old_r (by decide)) old_0) (lold_c (old_r (by decide)) lold_0) rfl rfl (hz.up (by decide)) ord32 (lt_P (A := [(30, 1), (30, 2)]) (by decide) hP (by decide)) ?_
  show WP _ _ _ 16 [_] [_, _] (TT 33 f g ([(30, 1), (30, 2)] ++ P))
  refine t_putF (A := []) (B := [(30, 2)] ++ P) hX (hin rfl) ffX1_15 (dk DX1_init 9 rfl) (by decide) rfl (by decide) rfl (by decide) (nin_P (A := [(30, 2)]) (by decide) hP) ?_
  show WP _ _ _ 19 [_] [] (TT 33 f g ([(30, 2)] ++ P))
  refine wp_aload_n hX (dk DX1_init 10 rfl) rfl ?_
  refine wp_bipush (v := 100) hX (dk DX1_init 11 rfl) (by decide) ?_
  refine t_newi (N := 100) hX (dk DX1_init 12 rfl) (by decide) (by decide) (by decide) (by decide) (by decide) (by decide) (old_c (old_r (by decide)) old_0) (lold_c (old_r (by decide)) lold_0) rfl rfl (hz.up (by decide)) ord33 (lt_P (A := [(30, 2)]) (by decide) hP (by decide)) ?_
  show WP _ _ _ 24 [_] [_, _] (TT 34 f g ([(30, 2)] ++ P))
  refine t_putF (A := []) (B := [] ++ P) hX (hin rfl) ffX1_18 (dk DX1_init 13 rfl) (by decide) rfl (by decide) rfl (by decide) (nin_P (A := []) (by decide) hP) ?_
  show WP _ _ _ 27 [_] [] (TT 34 f g ([] ++ P))
  exact wp_return hX hR (dk DX1_init 14 rfl) (by decide) (by decide) ⟨rfl, rfl⟩
theorem i_F34 (d : Nat) (f : Nat → Nat → Int32) (g : Nat → Nat → Int64) (P : List (Nat × Nat)) (hP : ∀ q ∈ P, q.1 < 34) (hz : zf 35 f g) : CT (d + 1) 3 204 iX1_init [.ref 34] (TT 35 f g ([(34, 0), (34, 1), (34, 2)] ++ P)) (QR none (TT 38 f g P)) := by
  refine CT.of rfl (Nat.le_of_ble_eq_true rfl) (fun X hX hR hN hin => ?_)
  have hX : Good X RX1 cX1_init (d + 1) 3 204 := hX
  have hN : x_nl X = 1 := hN
  show WP X 0 0 0 [_] [] _
  refine wp_aload_n hX (dk DX1_init 0 rfl) rfl ?_
  refine wp_obj hX lkX1_3 kin_obj kcd_obj (dk DX1_init 1 rfl) (by decide) ?_
  refine wp_aload_n hX (dk DX1_init 2 rfl) rfl ?_
  refine wp_iconst (v := 4) hX (dk DX1_init 3 rfl) (by decide) ?_
  refine t_newi (N := 4) hX (dk DX1_init 4 rfl) (by decide) (by decide) (by decide) (by decide) (by decide) (by decide) (old_c (old_r (by decide)) old_0) (lold_c (old_r (by decide)) lold_0) rfl rfl (hz.up (by decide)) ord35 (lt_P (A := [(34, 0), (34, 1), (34, 2)]) (by decide) hP (by decide)) ?_
  show WP _ _ _ 8 [_] [_, _] (TT 36 f g ([(34, 0), (34, 1), (34, 2)] ++ P))
  refine t_putF (A := []) (B := [(34, 1), (34, 2)] ++ P) hX (hin rfl) ffX1_11 (dk DX1_init 5 rfl) (by decide) rfl (by decide) rfl (by decide) (nin_P (A := [(34, 1), (34, 2)]) (by decide) hP) ?_
  show WP _ _ _ 11 [_] [] (TT 36 f g ([(34, 1), (34, 2)] ++ P))
  refine wp_aload_n hX (dk DX1_init 6 rfl) rfl ?_
  refine wp_bipush (v := 100) hX (dk DX1_init 7 rfl) (by decide) ?_
  refine t_newi (N := 100) hX (dk DX1_init 8 rfl) (by decide) (by decide) (by decide) (by decide) (by decide) (by decide) (old_c (old_r (by decide)) old_0) (lold_c (old_r (by decide)) lold_0) rfl rfl (hz.up (by decide)) ord36 (lt_P (A := [(34, 1), (34, 2)]) (by decide) hP (by decide)) ?_
  show WP _ _ _ 16 [_] [_, _] (TT 37 f g ([(34, 1), (34, 2)] ++ P))
  refine t_putF (A := []) (B := [(34, 2)] ++ P) hX (hin rfl) ffX1_15 (dk DX1_init 9 rfl) (by decide) rfl (by decide) rfl (by decide) (nin_P (A := [(34, 2)]) (by decide) hP) ?_
  show WP _ _ _ 19 [_] [] (TT 37 f g ([(34, 2)] ++ P))
  refine wp_aload_n hX (dk DX1_init 10 rfl) rfl ?_
  refine wp_bipush (v := 100) hX (dk DX1_init 11 rfl) (by decide) ?_
  refine t_newi (N := 100) hX (dk DX1_init 12 rfl) (by decide) (by decide) (by decide) (by decide) (by decide) (by decide) (old_c (old_r (by decide)) old_0) (lold_c (old_r (by decide)) lold_0) rfl rfl (hz.up (by decide)) ord37 (lt_P (A := [(34, 2)]) (by decide) hP (by decide)) ?_
  show WP _ _ _ 24 [_] [_, _] (TT 38 f g ([(34, 2)] ++ P))
  refine t_putF (A := []) (B := [] ++ P) hX (hin rfl) ffX1_18 (dk DX1_init 13 rfl) (by decide) rfl (by decide) rfl (by decide) (nin_P (A := []) (by decide) hP) ?_
  show WP _ _ _ 27 [_] [] (TT 38 f g ([] ++ P))
  exact wp_return hX hR (dk DX1_init 14 rfl) (by decide) (by decide) ⟨rfl, rfl⟩
theorem i_F38 (d : Nat) (f : Nat → Nat → Int32) (g : Nat → Nat → Int64) (P : List (Nat × Nat)) (hP : ∀ q ∈ P, q.1 < 38) (hz : zf 39 f g) : CT (d + 1) 3 204 iX1_init [.ref 38] (TT 39 f g ([(38, 0), (38, 1), (38, 2)] ++ P)) (QR none (TT 42 f g P)) := by
  refine CT.of rfl (Nat.le_of_ble_eq_true rfl) (fun X hX hR hN hin => ?_)
  have hX : Good X RX1 cX1_init (d + 1) 3 204 := hX
  have hN : x_nl X = 1 := hN
  show WP X 0 0 0 [_] [] _
  refine wp_aload_n hX (dk DX1_init 0 rfl) rfl ?_
  refine wp_obj hX lkX1_3 kin_obj kcd_obj (dk DX1_init 1 rfl) (by decide) ?_
  refine wp_aload_n hX (dk DX1_init 2 rfl) rfl ?_
  refine wp_iconst (v := 4) hX (dk DX1_init 3 rfl) (by decide) ?_
  refine t_newi (N := 4) hX (dk DX1_init 4 rfl) (by decide) (by decide) (by decide) (by decide) (by decide) (by decide) (old_c (old_r (by decide)) old_0) (lold_c (old_r (by decide)) lold_0) rfl rfl (hz.up (by decide)) ord39 (lt_P (A := [(38, 0), (38, 1), (38, 2)]) (by decide) hP (by decide)) ?_
  show WP _ _ _ 8 [_] [_, _] (TT 40 f g ([(38, 0), (38, 1), (38, 2)] ++ P))
  refine t_putF (A := []) (B := [(38, 1), (38, 2)] ++ P) hX (hin rfl) ffX1_11 (dk DX1_init 5 rfl) (by decide) rfl (by decide) rfl (by decide) (nin_P (A := [(38, 1), (38, 2)]) (by decide) hP) ?_
  show WP _ _ _ 11 [_] [] (TT 40 f g ([(38, 1), (38, 2)] ++ P))
  refine wp_aload_n hX (dk DX1_init 6 rfl) rfl ?_
  refine wp_bipush (v := 100) hX (dk DX1_init 7 rfl) (by decide) ?_
  refine t_newi (N := 100) hX (dk DX1_init 8 rfl) (by decide) (by decide) (by decide) (by decide) (by decide) (by decide) (old_c (old_r (by decide)) old_0) (lold_c (old_r (by decide)) lold_0) rfl rfl (hz.up (by decide)) ord40 (lt_P (A := [(38, 1), (38, 2)]) (by decide) hP (by decide)) ?_
  show WP _ _ _ 16 [_] [_, _] (TT 41 f g ([(38, 1), (38, 2)] ++ P))
  refine t_putF (A := []) (B := [(38, 2)] ++ P) hX (hin rfl) ffX1_15 (dk DX1_init 9 rfl) (by decide) rfl (by decide) rfl (by decide) (nin_P (A := [(38, 2)]) (by decide) hP) ?_
  show WP _ _ _ 19 [_] [] (TT 41 f g ([(38, 2)] ++ P))
  refine wp_aload_n hX (dk DX1_init 10 rfl) rfl ?_
  refine wp_bipush (v := 100) hX (dk DX1_init 11 rfl) (by decide) ?_
  refine t_newi (N := 100) hX (dk DX1_init 12 rfl) (by decide) (by decide) (by decide) (by decide) (by decide) (by decide) (old_c (old_r (by decide)) old_0) (lold_c (old_r (by decide)) lold_0) rfl rfl (hz.up (by decide)) ord41 (lt_P (A := [(38, 2)]) (by decide) hP (by decide)) ?_
  show WP _ _ _ 24 [_] [_, _] (TT 42 f g ([(38, 2)] ++ P))
  refine t_putF (A := []) (B := [] ++ P) hX (hin rfl) ffX1_18 (dk DX1_init 13 rfl) (by decide) rfl (by decide) rfl (by decide) (nin_P (A := []) (by decide) hP) ?_
  show WP _ _ _ 27 [_] [] (TT 42 f g ([] ++ P))
  exact wp_return hX hR (dk DX1_init 14 rfl) (by decide) (by decide) ⟨rfl, rfl⟩
theorem i_F42 (d : Nat) (f : Nat → Nat → Int32) (g : Nat → Nat → Int64) (P : List (Nat × Nat)) (hP : ∀ q ∈ P, q.1 < 42) (hz : zf 43 f g) : CT (d + 1) 3 204 iX1_init [.ref 42] (TT 43 f g ([(42, 0), (42, 1), (42, 2)] ++ P)) (QR none (TT 46 f g P)) := by
  refine CT.of rfl (Nat.le_of_ble_eq_true rfl) (fun X hX hR hN hin => ?_)
  have hX : Good X RX1 cX1_init (d + 1) 3 204 := hX
  have hN : x_nl X = 1 := hN
  show WP X 0 0 0 [_] [] _
  refine wp_aload_n hX (dk DX1_init 0 rfl) rfl ?_
  refine wp_obj hX lkX1_3 kin_obj kcd_obj (dk DX1_init 1 rfl) (by decide) ?_
  refine wp_aload_n hX (dk DX1_init 2 rfl) rfl ?_
  refine wp_iconst (v := 4) hX (dk DX1_init 3 rfl) (by decide) ?_
  refine t_newi (N := 4) hX (dk DX1_init 4 rfl) (by decide) (by decide) (by decide) (by decide) (by decide) (by decide) (old_c (old_r (by decide)) old_0) (lold_c (old_r (by decide)) lold_0) rfl rfl (hz.up (by decide)) ord43 (lt_P (A := [(42, 0), (42, 1), (42, 2)]) (by decide) hP (by decide)) ?_
  show WP _ _ _ 8 [_] [_, _] (TT 44 f g ([(42, 0), (42, 1), (42, 2)] ++ P))
  refine t_putF (A := []) (B := [(42, 1), (42, 2)] ++ P) hX (hin rfl) ffX1_11 (dk DX1_init 5 rfl) (by decide) rfl (by decide) rfl (by decide) (nin_P (A := [(42, 1), (42, 2)]) (by decide) hP) ?_
  show WP _ _ _ 11 [_] [] (TT 44 f g ([(42, 1), (42, 2)] ++ P))
  refine wp_aload_n hX (dk DX1_init 6 rfl) rfl ?_
  refine wp_bipush (v := 100) hX (dk DX1_init 7 rfl) (by decide) ?_
  refine t_newi (N := 100) hX (dk DX1_init 8 rfl) (by decide) (by decide) (by decide) (by decide) (by decide) (by decide) (old_c (old_r (by decide)) old_0) (lold_c (old_r (by decide)) lold_0) rfl rfl (hz.up (by decide)) ord44 (lt_P (A := [(42, 1), (42, 2)]) (by decide) hP (by decide)) ?_
  show WP _ _ _ 16 [_] [_, _] (TT 45 f g ([(42, 1), (42, 2)] ++ P))
  refine t_putF (A := []) (B := [(42, 2)] ++ P) hX (hin rfl) ffX1_15 (dk DX1_init 9 rfl) (by decide) rfl (by decide) rfl (by decide) (nin_P (A := [(42, 2)]) (by decide) hP) ?_
  show WP _ _ _ 19 [_] [] (TT 45 f g ([(42, 2)] ++ P))
  refine wp_aload_n hX (dk DX1_init 10 rfl) rfl ?_
  refine wp_bipush (v := 100) hX (dk DX1_init 11 rfl) (by decide) ?_
  refine t_newi (N := 100) hX (dk DX1_init 12 rfl) (by decide) (by decide) (by decide) (by decide) (by decide) (by decide) (old_c (old_r (by decide)) old_0) (lold_c (old_r (by decide)) lold_0) rfl rfl (hz.up (by decide)) ord45 (lt_P (A := [(42, 2)]) (by decide) hP (by decide)) ?_
  show WP _ _ _ 24 [_] [_, _] (TT 46 f g ([(42, 2)] ++ P))
  refine t_putF (A := []) (B := [] ++ P) hX (hin rfl) ffX1_18 (dk DX1_init 13 rfl) (by decide) rfl (by decide) rfl (by decide) (nin_P (A := []) (by decide) hP) ?_
  show WP _ _ _ 27 [_] [] (TT 46 f g ([] ++ P))
  exact wp_return hX hR (dk DX1_init 14 rfl) (by decide) (by decide) ⟨rfl, rfl⟩
theorem i_F77 (d : Nat) (f : Nat → Nat → Int32) (g : Nat → Nat → Int64) (P : List (Nat × Nat)) (hP : ∀ q ∈ P, q.1 < 77) (hz : zf 78 f g) : CT (d + 1) 3 204 iX1_init [.ref 77] (TT 78 f g ([(77, 0), (77, 1), (77, 2)] ++ P)) (QR none (TT 81 f g P)) := by
  refine CT.of rfl (Nat.le_of_ble_eq_true rfl) (fun X hX hR hN hin => ?_)
  have hX : Good X RX1 cX1_init (d + 1) 3 204 := hX
  have hN : x_nl X = 1 := hN
  show WP X 0 0 0 [_] [] _
  refine wp_aload_n hX (dk DX1_init 0 rfl) rfl ?_
  refine wp_obj hX lkX1_3 kin_obj kcd_obj (dk DX1_init 1 rfl) (by decide) ?_
  refine wp_aload_n hX (dk DX1_init 2 rfl) rfl ?_
  refine wp_iconst (v := 4) hX (dk DX1_init 3 rfl) (by decide) ?_
  refine t_newi (N := 4) hX (dk DX1_init 4 rfl) (by decide) (by decide) (by decide) (by decide) (by decide) (by decide) (old_c (old_r (by decide)) old_0) (lold_c (old_r (by decide)) lold_0) rfl rfl (hz.up (by decide)) ord78 (lt_P (A := [(77, 0), (77, 1), (77, 2)]) (by decide) hP (by decide)) ?_
  show WP _ _ _ 8 [_] [_, _] (TT 79 f g ([(77, 0), (77, 1), (77, 2)] ++ P))
  refine t_putF (A := []) (B := [(77, 1), (77, 2)] ++ P) hX (hin rfl) ffX1_11 (dk DX1_init 5 rfl) (by decide) rfl (by decide) rfl (by decide) (nin_P (A := [(77, 1), (77, 2)]) (by decide) hP) ?_
  show WP _ _ _ 11 [_] [] (TT 79 f g ([(77, 1), (77, 2)] ++ P))
  refine wp_aload_n hX (dk DX1_init 6 rfl) rfl ?_
  refine wp_bipush (v := 100) hX (dk DX1_init 7 rfl) (by decide) ?_
  refine t_newi (N := 100) hX (dk DX1_init 8 rfl) (by decide) (by decide) (by decide) (by decide) (by decide) (by decide) (old_c (old_r (by decide)) old_0) (lold_c (old_r (by decide)) lold_0) rfl rfl (hz.up (by decide)) ord79 (lt_P (A := [(77, 1), (77, 2)]) (by decide) hP (by decide)) ?_
  show WP _ _ _ 16 [_] [_, _] (TT 80 f g ([(77, 1), (77, 2)] ++ P))
  refine t_putF (A := []) (B := [(77, 2)] ++ P) hX (hin rfl) ffX1_15 (dk DX1_init 9 rfl) (by decide) rfl (by decide) rfl (by decide) (nin_P (A := [(77, 2)]) (by decide) hP) ?_
  show WP _ _ _ 19 [_] [] (TT 80 f g ([(77, 2)] ++ P))
  refine wp_aload_n hX (dk DX1_init 10 rfl) rfl ?_
  refine wp_bipush (v := 100) hX (dk DX1_init 11 rfl) (by decide) ?_
  refine t_newi (N := 100) hX (dk DX1_init 12 rfl) (by decide) (by decide) (by decide) (by decide) (by decide) (by decide) (old_c (old_r (by decide)) old_0) (lold_c (old_r (by decide)) lold_0) rfl rfl (hz.up (by decide)) ord80 (lt_P (A := [(77, 2)]) (by decide) hP (by decide)) ?_
  show WP _ _ _ 24 [_] [_, _] (TT 81 f g ([(77, 2)] ++ P))
  refine t_putF (A := []) (B := [] ++ P) hX (hin rfl) ffX1_18 (dk DX1_init 13 rfl) (by decide) rfl (by decide) rfl (by decide) (nin_P (A := []) (by decide) hP) ?_
  show WP _ _ _ 27 [_] [] (TT 81 f g ([] ++ P))
  exact wp_return hX hR (dk DX1_init 14 rfl) (by decide) (by decide) ⟨rfl, rfl⟩
theorem i_X5 (d : Nat) (f : Nat → Nat → Int32) (g : Nat → Nat → Int64) (P : List (Nat × Nat)) (hP : ∀ q ∈ P, q.1 < 1) (hz : zf 2 f g) : CT (d + 2) 44 2160 iX5_init [.ref 1] (TT 2 f g ([(1, 0), (1, 1), (1, 2), (1, 3)] ++ P)) (QR none (TT 46 f g P)) := by
  refine CT.of rfl (Nat.le_of_ble_eq_true rfl) (fun X hX hR hN hin => ?_)
  have hX : Good X RX5 cX5_init (d + 2) 44 2160 := hX
  have hN : x_nl X = 2 := hN
  show WP X 0 0 0 [_, _] [] _
  refine wp_aload_n hX (dk DX5_init 0 rfl) rfl ?_
  refine wp_obj hX lkX5_3 kin_obj kcd_obj (dk DX5_init 1 rfl) (by decide) ?_
  refine wp_aload_n hX (dk DX5_init 2 rfl) rfl ?_
  refine wp_bipush (v := 10) hX (dk DX5_init 3 rfl) (by decide) ?_
  refine t_newf (N := 10) hX klX5_9 (dk DX5_init 4 rfl) (by decide) (by decide) (by decide) (by decide) (by decide) (by decide) (old_c (old_r (by decide)) old_0) (lold_c (old_r (by decide)) (lold_n lold_0)) rfl rfl (hz.up (by decide)) ord2 (lt_P (A := [(1, 0), (1, 1), (1, 2), (1, 3)]) (by decide) hP (by decide)) ?_
  show WP _ _ _ 10 [_, _] [_, _] (TT 3 f g ([(2, 0), (2, 1), (2, 2), (2, 3), (2, 4), (2, 5), (2, 6), (2, 7), (2, 8), (2, 9), (1, 0), (1, 1), (1, 2), (1, 3)] ++ P))
  refine t_putF (A := [(2, 0), (2, 1), (2, 2), (2, 3), (2, 4), (2, 5), (2, 6), (2, 7), (2, 8), (2, 9)]) (B := [(1, 1), (1, 2), (1, 3)] ++ P) hX (hin rfl) ffX5_11 (dk DX5_init 5 rfl) (by decide) rfl (by decide) rfl (by decide) (nin_P (A := [(1, 1), (1, 2), (1, 3)]) (by decide) hP) ?_
  show WP _ _ _ 13 [_, _] [] (TT 3 f g ([(2, 0), (2, 1), (2, 2), (2, 3), (2, 4), (2, 5), (2, 6), (2, 7), (2, 8), (2, 9), (1, 1), (1, 2), (1, 3)] ++ P))
  refine wp_aload_n hX (dk DX5_init 6 rfl) rfl ?_
  refine wp_bipush (v := 30) hX (dk DX5_init 7 rfl) (by decide) ?_
  refine t_newi (N := 30) hX (dk DX5_init 8 rfl) (by decide) (by decide) (by decide) (by decide) (by decide) (by decide) (old_c (old_r (by decide)) old_0) (lold_c (old_r (by decide)) (lold_n lold_0)) rfl rfl (hz.up (by decide)) ord3 (lt_P (A := [(2, 0), (2, 1), (2, 2), (2, 3), (2, 4), (2, 5), (2, 6), (2, 7), (2, 8), (2, 9), (1, 1), (1, 2), (1, 3)]) (by decide) hP (by decide)) ?_
  show WP _ _ _ 18 [_, _] [_, _] (TT 4 f g ([(2, 0), (2, 1), (2, 2), (2, 3), (2, 4), (2, 5), (2, 6), (2, 7), (2, 8), (2, 9), (1, 1), (1, 2), (1, 3)] ++ P))
  refine t_putF (A := [(2, 0), (2, 1), (2, 2), (2, 3), (2, 4), (2, 5), (2, 6), (2, 7), (2, 8), (2, 9)]) (B := [(1, 2), (1, 3)] ++ P) hX (hin rfl) ffX5_17 (dk DX5_init 9 rfl) (by decide) rfl (by decide) rfl (by decide) (nin_P (A := [(1, 2), (1, 3)]) (by decide) hP) ?_
  show WP _ _ _ 21 [_, _] [] (TT 4 f g ([(2, 0), (2, 1), (2, 2), (2, 3), (2, 4), (2, 5), (2, 6), (2, 7), (2, 8), (2, 9), (1, 2), (1, 3)] ++ P))
  refine wp_aload_n hX (dk DX5_init 10 rfl) rfl ?_
  refine wp_bipush (v := 10) hX (dk DX5_init 11 rfl) (by decide) ?_
  refine t_newi (N := 10) hX (dk DX5_init 12 rfl) (by decide) (by decide) (by decide) (by decide) (by decide) (by decide) (old_c (old_r (by decide)) old_0) (lold_c (old_r (by decide)) (lold_n lold_0)) rfl rfl (hz.up (by decide)) ord4 (lt_P (A := [(2, 0), (2, 1), (2, 2), (2, 3), (2, 4), (2, 5), (2, 6), (2, 7), (2, 8), (2, 9), (1, 2), (1, 3)]) (by decide) hP (by decide)) ?_
  show WP _ _ _ 26 [_, _] [_, _] (TT 5 f g ([(2, 0), (2, 1), (2, 2), (2, 3), (2, 4), (2, 5), (2, 6), (2, 7), (2, 8), (2, 9), (1, 2), (1, 3)] ++ P))
  refine t_putF (A := [(2, 0), (2, 1), (2, 2), (2, 3), (2, 4), (2, 5), (2, 6), (2, 7), (2, 8), (2, 9)]) (B := [(1, 3)] ++ P) hX (hin rfl) ffX5_21 (dk DX5_init 13 rfl) (by decide) rfl (by decide) rfl (by decide) (nin_P (A := [(1, 3)]) (by decide) hP) ?_
  show WP _ _ _ 29 [_, _] [] (TT 5 f g ([(2, 0), (2, 1), (2, 2), (2, 3), (2, 4), (2, 5), (2, 6), (2, 7), (2, 8), (2, 9), (1, 3)] ++ P))
  refine wp_aload_n hX (dk DX5_init 14 rfl) rfl ?_
  refine wp_bipush (v := 10) hX (dk DX5_init 15 rfl) (by decide) ?_
  refine t_newi (N := 10) hX (dk DX5_init 16 rfl) (by decide) (by decide) (by decide) (by decide) (by decide) (by decide) (old_c (old_r (by decide)) old_0) (lold_c (old_r (by decide)) (lold_n lold_0)) rfl rfl (hz.up (by decide)) ord5 (lt_P (A := [(2, 0), (2, 1), (2, 2), (2, 3), (2, 4), (2, 5), (2, 6), (2, 7), (2, 8), (2, 9), (1, 3)]) (by decide) hP (by decide)) ?_
  show WP _ _ _ 34 [_, _] [_, _] (TT 6 f g ([(2, 0), (2, 1), (2, 2), (2, 3), (2, 4), (2, 5), (2, 6), (2, 7), (2, 8), (2, 9), (1, 3)] ++ P))
  refine t_putF (A := [(2, 0), (2, 1), (2, 2), (2, 3), (2, 4), (2, 5), (2, 6), (2, 7), (2, 8), (2, 9)]) (B := [] ++ P) hX (hin rfl) ffX5_24 (dk DX5_init 17 rfl) (by decide) rfl (by decide) rfl (by decide) (nin_P (A := []) (by decide) hP) ?_
  show WP _ _ _ 37 [_, _] [] (TT 6 f g ([(2, 0), (2, 1), (2, 2), (2, 3), (2, 4), (2, 5), (2, 6), (2, 7), (2, 8), (2, 9)] ++ P))
  refine wp_iconst (v := 0) hX (dk DX5_init 18 rfl) (by decide) ?_
  refine wp_istore_n hX (dk DX5_init 19 rfl) rfl rfl hN (Nat.le_of_ble_eq_true rfl) ?_
  show WP _ _ _ 39 [_, _] [] _
  refine wp_iload_n hX (dk DX5_init 20 rfl) rfl ?_
  refine wp_bipush (v := 10) hX (dk DX5_init 21 rfl) (by decide) ?_
  refine wp_icmp_ge (tgt := 64) hX (dk DX5_init 22 rfl) (by decide) (fun h_ => absurd h_ (by decide)) (fun _ => ?_)
  refine wp_aload_n hX (dk DX5_init 23 rfl) rfl ?_
  refine t_getr (x := 2) hX flX5_11 (dk DX5_init 24 rfl) (by decide) rfl rfl (nin_P (A := [(2, 0), (2, 1), (2, 2), (2, 3), (2, 4), (2, 5), (2, 6), (2, 7), (2, 8), (2, 9)]) (by decide) hP) (by decide) ?_
  refine wp_iload_n hX (dk DX5_init 25 rfl) rfl ?_
  refine t_new hX cfX1 klX5_9 ciX1 (dk DX5_init 26 rfl) (by decide) (by decide) (by decide) (old_c old_i (old_c (old_r (by decide)) old_0)) (lold_c (old_r (by decide)) (lold_c old_i lold_0)) rfl rfl (hz.up (by decide)) ord6 (lt_P (A := [(2, 0), (2, 1), (2, 2), (2, 3), (2, 4), (2, 5), (2, 6), (2, 7), (2, 8), (2, 9)]) (by decide) hP (by decide)) ?_
  show WP _ _ _ 53 [_, _] [_, _, _] (TT 7 f g ([(6, 0), (6, 1), (6, 2), (2, 0), (2, 1), (2, 2), (2, 3), (2, 4), (2, 5), (2, 6), (2, 7), (2, 8), (2, 9)] ++ P))
  refine wp_dup hX (dk DX5_init 27 rfl) rfl ?_
  refine t_call (As := []) lkX5_27 hX (dk DX5_init 28 rfl) rfl (by decide) (by decide) (by decide) (i_F6 (d + 0) f g ([(2, 0), (2, 1), (2, 2), (2, 3), (2, 4), (2, 5), (2, 6), (2, 7), (2, 8), (2, 9)] ++ P) (lt_P (A := [(2, 0), (2, 1), (2, 2), (2, 3), (2, 4), (2, 5), (2, 6), (2, 7), (2, 8), (2, 9)]) (by decide) hP (by decide)) (hz.up (by decide))) (old_c (old_r (by decide)) (old_c old_i (old_c (old_r (by decide)) old_0))) (lold_c (old_r (by decide)) (lold_c old_i lold_0)) ?_
  show WP _ _ _ 57 [_, _] [_, _, _] (TT 10 f g ([(2, 0), (2, 1), (2, 2), (2, 3), (2, 4), (2, 5), (2, 6), (2, 7), (2, 8), (2, 9)] ++ P))
  refine t_aast (k := 0) (A := []) (B := [(2, 1), (2, 2), (2, 3), (2, 4), (2, 5), (2, 6), (2, 7), (2, 8), (2, 9)] ++ P) hX (dk DX5_init 29 rfl) (by decide) rfl rfl (by decide) (by decide) (by decide) rfl rfl (by decide) (nin_P (A := [(2, 1), (2, 2), (2, 3), (2, 4), (2, 5), (2, 6), (2, 7), (2, 8), (2, 9)]) (by decide) (fun q hq => Nat.lt_trans (hP q hq) (by decide))) ?_
  show WP _ _ _ 58 [_, _] [] (TT 10 f g ([(2, 1), (2, 2), (2, 3), (2, 4), (2, 5), (2, 6), (2, 7), (2, 8), (2, 9)] ++ P))
  refine wp_iinc (v := 1) hX (dk DX5_init 30 rfl) rfl (by decide) rfl hN ?_
  show WP _ _ _ 61 [_, _] [] _
  refine wp_goto (tgt := 39) hX (dk DX5_init 31 rfl) (by decide) ?_
  refine wp_iload_n hX (dk DX5_init 20 rfl) rfl ?_
  refine wp_bipush (v := 10) hX (dk DX5_init 21 rfl) (by decide) ?_
  refine wp_icmp_ge (tgt := 64) hX (dk DX5_init 22 rfl) (by decide) (fun h_ => absurd h_ (by decide)) (fun _ => ?_)
  refine wp_aload_n hX (dk DX5_init 23 rfl) rfl ?_
  refine t_getr (x := 2) hX flX5_11 (dk DX5_init 24 rfl) (by decide) rfl rfl (nin_P (A := [(2, 1), (2, 2), (2, 3), (2, 4), (2, 5), (2, 6), (2, 7), (2, 8), (2, 9)]) (by decide) hP) (by decide) ?_
  refine wp_iload_n hX (dk DX5_init 25 rfl) rfl ?_
  refine t_new hX cfX1 klX5_9 ciX1 (dk DX5_init 26 rfl) (by decide) (by decide) (by decide) (old_c old_i (old_c (old_r (by decide)) old_0)) (lold_c (old_r (by decide)) (lold_c old_i lold_0)) rfl rfl (hz.up (by decide)) ord10 (lt_P (A := [(2, 1), (2, 2), (2, 3), (2, 4), (2, 5), (2, 6), (2, 7), (2, 8), (2, 9)]) (by decide) hP (by decide)) ?_
  show WP _ _ _ 53 [_, _] [_, _, _] (TT 11 f g ([(10, 0), (10, 1), (10, 2), (2, 1), (2, 2), (2, 3), (2, 4), (2, 5), (2, 6), (2, 7), (2, 8), (2, 9)] ++ P))
  refine wp_dup hX (dk DX5_init 27 rfl) rfl ?_
  refine t_call (As := []) lkX5_27 hX (dk DX5_init 28 rfl) rfl (by decide) (by decide) (by decide) (i_F10 (d + 0) f g ([(2, 1), (2, 2), (2, 3), (2, 4), (2, 5), (2, 6), (2, 7), (2, 8), (2, 9)] ++ P) (lt_P (A := [(2, 1), (2, 2), (2, 3), (2, 4), (2, 5), (2, 6), (2, 7), (2, 8), (2, 9)]) (by decide) hP (by decide)) (hz.up (by decide))) (old_c (old_r (by decide)) (old_c old_i (old_c (old_r (by decide)) old_0))) (lold_c (old_r (by decide)) (lold_c old_i lold_0)) ?_
  show WP _ _ _ 57 [_, _] [_, _, _] (TT 14 f g ([(2, 1), (2, 2), (2, 3), (2, 4), (2, 5), (2, 6), (2, 7), (2, 8), (2, 9)] ++ P))
  refine t_aast (k := 1) (A := []) (B := [(2, 2), (2, 3), (2, 4), (2, 5), (2, 6), (2, 7), (2, 8), (2, 9)] ++ P) hX (dk DX5_init 29 rfl) (by decide) rfl rfl (by decide) (by decide) (by decide) rfl rfl (by decide) (nin_P (A := [(2, 2), (2, 3), (2, 4), (2, 5), (2, 6), (2, 7), (2, 8), (2, 9)]) (by decide) (fun q hq => Nat.lt_trans (hP q hq) (by decide))) ?_
  show WP _ _ _ 58 [_, _] [] (TT 14 f g ([(2, 2), (2, 3), (2, 4), (2, 5), (2, 6), (2, 7), (2, 8), (2, 9)] ++ P))
  refine wp_iinc (v := 2) hX (dk DX5_init 30 rfl) rfl (by decide) rfl hN ?_
  show WP _ _ _ 61 [_, _] [] _
  refine wp_goto (tgt := 39) hX (dk DX5_init 31 rfl) (by decide) ?_
  refine wp_iload_n hX (dk DX5_init 20 rfl) rfl ?_
  refine wp_bipush (v := 10) hX (dk DX5_init 21 rfl) (by decide) ?_
  refine wp_icmp_ge (tgt := 64) hX (dk DX5_init 22 rfl) (by decide) (fun h_ => absurd h_ (by decide)) (fun _ => ?_)
  refine wp_aload_n hX (dk DX5_init 23 rfl) rfl ?_
  refine t_getr (x := 2) hX flX5_11 (dk DX5_init 24 rfl) (by decide) rfl rfl (nin_P (A := [(2, 2), (2, 3), (2, 4), (2, 5), (2, 6), (2, 7), (2, 8), (2, 9)]) (by decide) hP) (by decide) ?_
  refine wp_iload_n hX (dk DX5_init 25 rfl) rfl ?_
  refine t_new hX cfX1 klX5_9 ciX1 (dk DX5_init 26 rfl) (by decide) (by decide) (by decide) (old_c old_i (old_c (old_r (by decide)) old_0)) (lold_c (old_r (by decide)) (lold_c old_i lold_0)) rfl rfl (hz.up (by decide)) ord14 (lt_P (A := [(2, 2), (2, 3), (2, 4), (2, 5), (2, 6), (2, 7), (2, 8), (2, 9)]) (by decide) hP (by decide)) ?_
  show WP _ _ _ 53 [_, _] [_, _, _] (TT 15 f g ([(14, 0), (14, 1), (14, 2), (2, 2), (2, 3), (2, 4), (2, 5), (2, 6), (2, 7), (2, 8), (2, 9)] ++ P))
  refine wp_dup hX (dk DX5_init 27 rfl) rfl ?_
  refine t_call (As := []) lkX5_27 hX (dk DX5_init 28 rfl) rfl (by decide) (by decide) (by decide) (i_F14 (d + 0) f g ([(2, 2), (2, 3), (2, 4), (2, 5), (2, 6), (2, 7), (2, 8), (2, 9)] ++ P) (lt_P (A := [(2, 2), (2, 3), (2, 4), (2, 5), (2, 6), (2, 7), (2, 8), (2, 9)]) (by decide) hP (by decide)) (hz.up (by decide))) (old_c (old_r (by decide)) (old_c old_i (old_c (old_r (by decide)) old_0))) (lold_c (old_r (by decide)) (lold_c old_i lold_0)) ?_
  show WP _ _ _ 57 [_, _] [_, _, _] (TT 18 f g ([(2, 2), (2, 3), (2, 4), (2, 5), (2, 6), (2, 7), (2, 8), (2, 9)] ++ P))
  refine t_aast (k := 2) (A := []) (B := [(2, 3), (2, 4), (2, 5), (2, 6), (2, 7), (2, 8), (2, 9)] ++ P) hX (dk DX5_init 29 rfl) (by decide) rfl rfl (by decide) (by decide) (by decide) rfl rfl (by decide) (nin_P (A := [(2, 3), (2, 4), (2, 5), (2, 6), (2, 7), (2, 8), (2, 9)]) (by decide) (fun q hq => Nat.lt_trans (hP q hq) (by decide))) ?_
  show WP _ _ _ 58 [_, _] [] (TT 18 f g ([(2, 3), (2, 4), (2, 5), (2, 6), (2, 7), (2, 8), (2, 9)] ++ P))
  refine wp_iinc (v := 3) hX (dk DX5_init 30 rfl) rfl (by decide) rfl hN ?_
  show WP _ _ _ 61 [_, _] [] _
  refine wp_goto (tgt := 39) hX (dk DX5_init 31 rfl) (by decide) ?_
  refine wp_iload_n hX (dk DX5_init 20 rfl) rfl ?_
  refine wp_bipush (v := 10) hX (dk DX5_init 21 rfl) (by decide) ?_
  refine wp_icmp_ge (tgt := 64) hX (dk DX5_init 22 rfl) (by decide) (fun h_ => absurd h_ (by decide)) (fun _ => ?_)
  refine wp_aload_n hX (dk DX5_init 23 rfl) rfl ?_
  refine t_getr (x := 2) hX flX5_11 (dk DX5_init 24 rfl) (by decide) rfl rfl (nin_P (A := [(2, 3), (2, 4), (2, 5), (2, 6), (2, 7), (2, 8), (2, 9)]) (by decide) hP) (by decide) ?_
  refine wp_iload_n hX (dk DX5_init 25 rfl) rfl ?_
  refine t_new hX cfX1 klX5_9 ciX1 (dk DX5_init 26 rfl) (by decide) (by decide) (by decide) (old_c old_i (old_c (old_r (by decide)) old_0)) (lold_c (old_r (by decide)) (lold_c old_i lold_0)) rfl rfl (hz.up (by decide)) ord18 (lt_P (A := [(2, 3), (2, 4), (2, 5), (2, 6), (2, 7), (2, 8), (2, 9)]) (by decide) hP (by decide)) ?_
  show WP _ _ _ 53 [_, _] [_, _, _] (TT 19 f g ([(18, 0), (18, 1), (18, 2), (2, 3), (2, 4), (2, 5), (2, 6), (2, 7), (2, 8), (2, 9)] ++ P))
  refine wp_dup hX (dk DX5_init 27 rfl) rfl ?_
  refine t_call (As := []) lkX5_27 hX (dk DX5_init 28 rfl) rfl (by decide) (by decide) (by decide) (i_F18 (d + 0) f g ([(2, 3), (2, 4), (2, 5), (2, 6), (2, 7), (2, 8), (2, 9)] ++ P) (lt_P (A := [(2, 3), (2, 4), (2, 5), (2, 6), (2, 7), (2, 8), (2, 9)]) (by decide) hP (by decide)) (hz.up (by decide))) (old_c (old_r (by decide)) (old_c old_i (old_c (old_r (by decide)) old_0))) (lold_c (old_r (by decide)) (lold_c old_i lold_0)) ?_
  show WP _ _ _ 57 [_, _] [_, _, _] (TT 22 f g ([(2, 3), (2, 4), (2, 5), (2, 6), (2, 7), (2, 8), (2, 9)] ++ P))
  refine t_aast (k := 3) (A := []) (B := [(2, 4), (2, 5), (2, 6), (2, 7), (2, 8), (2, 9)] ++ P) hX (dk DX5_init 29 rfl) (by decide) rfl rfl (by decide) (by decide) (by decide) rfl rfl (by decide) (nin_P (A := [(2, 4), (2, 5), (2, 6), (2, 7), (2, 8), (2, 9)]) (by decide) (fun q hq => Nat.lt_trans (hP q hq) (by decide))) ?_
  show WP _ _ _ 58 [_, _] [] (TT 22 f g ([(2, 4), (2, 5), (2, 6), (2, 7), (2, 8), (2, 9)] ++ P))
  refine wp_iinc (v := 4) hX (dk DX5_init 30 rfl) rfl (by decide) rfl hN ?_
  show WP _ _ _ 61 [_, _] [] _
  refine wp_goto (tgt := 39) hX (dk DX5_init 31 rfl) (by decide) ?_
  refine wp_iload_n hX (dk DX5_init 20 rfl) rfl ?_
  refine wp_bipush (v := 10) hX (dk DX5_init 21 rfl) (by decide) ?_
  refine wp_icmp_ge (tgt := 64) hX (dk DX5_init 22 rfl) (by decide) (fun h_ => absurd h_ (by decide)) (fun _ => ?_)
  refine wp_aload_n hX (dk DX5_init 23 rfl) rfl ?_
  refine t_getr (x := 2) hX flX5_11 (dk DX5_init 24 rfl) (by decide) rfl rfl (nin_P (A := [(2, 4), (2, 5), (2, 6), (2, 7), (2, 8), (2, 9)]) (by decide) hP) (by decide) ?_
  refine wp_iload_n hX (dk DX5_init 25 rfl) rfl ?_
  refine t_new hX cfX1 klX5_9 ciX1 (dk DX5_init 26 rfl) (by decide) (by decide) (by decide) (old_c old_i (old_c (old_r (by decide)) old_0)) (lold_c (old_r (by decide)) (lold_c old_i lold_0)) rfl rfl (hz.up (by decide)) ord22 (lt_P (A := [(2, 4), (2, 5), (2, 6), (2, 7), (2, 8), (2, 9)]) (by decide) hP (by decide)) ?_
  show WP _ _ _ 53 [_, _] [_, _, _] (TT 23 f g ([(22, 0), (22, 1), (22, 2), (2, 4), (2, 5), (2, 6), (2, 7), (2, 8), (2, 9)] ++ P))
  refine wp_dup hX (dk DX5_init 27 rfl) rfl ?_
  refine t_call (As := []) lkX5_27 hX (dk DX5_init 28 rfl) rfl (by decide) (by decide) (by decide) (i_F22 (d + 0) f g ([(2, 4), (2, 5), (2, 6), (2, 7), (2, 8), (2, 9)] ++ P) (lt_P (A := [(2, 4), (2, 5), (2, 6), (2, 7), (2, 8), (2, 9)]) (by decide) hP (by decide)) (hz.up (by decide))) (old_c (old_r (by decide)) (old_c old_i (old_c (old_r (by decide)) old_0))) (lold_c (old_r (by decide)) (lold_c old_i lold_0)) ?_
  show WP _ _ _ 57 [_, _] [_, _, _] (TT 26 f g ([(2, 4), (2, 5), (2, 6), (2, 7), (2, 8), (2, 9)] ++ P))
  refine t_aast (k := 4) (A := []) (B := [(2, 5), (2, 6), (2, 7), (2, 8), (2, 9)] ++ P) hX (dk DX5_init 29 rfl) (by decide) rfl rfl (by decide) (by decide) (by decide) rfl rfl (by decide) (nin_P (A := [(2, 5), (2, 6), (2, 7), (2, 8), (2, 9)]) (by decide) (fun q hq => Nat.lt_trans (hP q hq) (by decide))) ?_
  show WP _ _ _ 58 [_, _] [] (TT 26 f g ([(2, 5), (2, 6), (2, 7), (2, 8), (2, 9)] ++ P))
  refine wp_iinc (v := 5) hX (dk DX5_init 30 rfl) rfl (by decide) rfl hN ?_
  show WP _ _ _ 61 [_, _] [] _
  refine wp_goto (tgt := 39) hX (dk DX5_init 31 rfl) (by decide) ?_
  refine wp_iload_n hX (dk DX5_init 20 rfl) rfl ?_
  refine wp_bipush (v := 10) hX (dk DX5_init 21 rfl) (by decide) ?_
  refine wp_icmp_ge (tgt := 64) hX (dk DX5_init 22 rfl) (by decide) (fun h_ => absurd h_ (by decide)) (fun _ => ?_)
  refine wp_aload_n hX (dk DX5_init 23 rfl) rfl ?_
  refine t_getr (x := 2) hX flX5_11 (dk DX5_init 24 rfl) (by decide) rfl rfl (nin_P (A := [(2, 5), (2, 6), (2, 7), (2, 8), (2, 9)]) (by decide) hP) (by decide) ?_
  refine wp_iload_n hX (dk DX5_init 25 rfl) rfl ?_
  refine t_new hX cfX1 klX5_9 ciX1 (dk DX5_init 26 rfl) (by decide) (by decide) (by decide) (old_c old_i (old_c (old_r (by decide)) old_0)) (lold_c (old_r (by decide)) (lold_c old_i lold_0)) rfl rfl (hz.up (by decide)) ord26 (lt_P (A := [(2, 5), (2, 6), (2, 7), (2, 8), (2, 9)]) (by decide) hP (by decide)) ?_
  show WP _ _ _ 53 [_, _] [_, _, _] (TT 27 f g ([(26, 0), (26, 1), (26, 2), (2, 5), (2, 6), (2, 7), (2, 8), (2, 9)] ++ P))
  refine wp_dup hX (dk DX5_init 27 rfl) rfl ?_
  refine t_call (As := []) lkX5_27 hX (dk DX5_init 28 rfl) rfl (by decide) (by decide) (by decide) (i_F26 (d + 0) f g ([(2, 5), (2, 6), (2, 7), (2, 8), (2, 9)] ++ P) (lt_P (A := [(2, 5), (2, 6), (2, 7), (2, 8), (2, 9)]) (by decide) hP (by decide)) (hz.up (by decide))) (old_c (old_r (by decide)) (old_c old_i (old_c (old_r (by decide)) old_0))) (lold_c (old_r (by decide)) (lold_c old_i lold_0)) ?_
  show WP _ _ _ 57 [_, _] [_, _, _] (TT 30 f g ([(2, 5), (2, 6), (2, 7), (2, 8), (2, 9)] ++ P))
  refine t_aast (k := 5) (A := []) (B := [(2, 6), (2, 7), (2, 8), (2, 9)] ++ P) hX (dk DX5_init 29 rfl) (by decide) rfl rfl (by decide) (by decide) (by decide) rfl rfl (by decide) (nin_P (A := [(2, 6), (2, 7), (2, 8), (2, 9)]) (by decide) (fun q hq => Nat.lt_trans (hP q hq) (by decide))) ?_
  show WP _ _ _ 58 [_, _] [] (TT 30 f g ([(2, 6), (2, 7), (2, 8), (2, 9)] ++ P))
  refine wp_iinc (v := 6) hX (dk DX5_init 30 rfl) rfl (by decide) rfl hN ?_
  show WP _ _ _ 61 [_, _] [] _
  refine wp_goto (tgt := 39) hX (dk DX5_init 31 rfl) (by decide) ?_
  refine wp_iload_n hX (dk DX5_init 20 rfl) rfl ?_
  refine wp_bipush (v := 10) hX (dk DX5_init 21 rfl) (by decide) ?_
  refine wp_icmp_ge (tgt := 64) hX (dk DX5_init 22 rfl) (by decide) (fun h_ => absurd h_ (by decide)) (fun _ => ?_)
  refine wp_aload_n hX (dk DX5_init 23 rfl) rfl ?_
  refine t_getr (x := 2) hX flX5_11 (dk DX5_init 24 rfl) (by decide) rfl rfl (nin_P (A := [(2, 6), (2, 7), (2, 8), (2, 9)]) (by decide) hP) (by decide) ?_
  refine wp_iload_n hX (dk DX5_init 25 rfl) rfl ?_
  refine t_new hX cfX1 klX5_9 ciX1 (dk DX5_init 26 rfl) (by decide) (by decide) (by decide) (old_c old_i (old_c (old_r (by decide)) old_0)) (lold_c (old_r (by decide)) (lold_c old_i lold_0)) rfl rfl (hz.up (by decide)) ord30 (lt_P (A := [(2, 6), (2, 7), (2, 8), (2, 9)]) (by decide) hP (by decide)) ?_
  show WP _ _ _ 53 [_, _] [_, _, _] (TT 31 f g ([(30, 0), (30, 1), (30, 2), (2, 6), (2, 7), (2, 8), (2, 9)] ++ P))
  refine wp_dup hX (dk DX5_init 27 rfl) rfl ?_
  refine t_call (As := []) lkX5_27 hX (dk DX5_init 28 rfl) rfl (by decide) (by decide) (by decide) (i_F30 (d + 0) f g ([(2, 6), (2, 7), (2, 8), (2, 9)] ++ P) (lt_P (A := [(2, 6), (2, 7), (2, 8), (2, 9)]) (by decide) hP (by decide)) (hz.up (by decide))) (old_c (old_r (by decide)) (old_c old_i (old_c (old_r (by decide)) old_0))) (lold_c (old_r (by decide)) (lold_c old_i lold_0)) ?_
  show WP _ _ _ 57 [_, _] [_, _, _] (TT 34 f g ([(2, 6), (2, 7), (2, 8), (2, 9)] ++ P))
  refine t_aast (k := 6) (A := []) (B := [(2, 7), (2, 8), (2, 9)] ++ P) hX (dk DX5_init 29 rfl) (by decide) rfl rfl (by decide) (by decide) (by decide) rfl rfl (by decide) (nin_P (A := [(2, 7), (2, 8), (2, 9)]) (by decide) (fun q hq => Nat.lt_trans (hP q hq) (by decide))) ?_
  show WP _ _ _ 58 [_, _] [] (TT 34 f g ([(2, 7), (2, 8), (2, 9)] ++ P))
  refine wp_iinc (v := 7) hX (dk DX5_init 30 rfl) rfl (by decide) rfl hN ?_
  show WP _ _ _ 61 [_, _] [] _
  refine wp_goto (tgt := 39) hX (dk DX5_init 31 rfl) (by decide) ?_
  refine wp_iload_n hX (dk DX5_init 20 rfl) rfl ?_
  refine wp_bipush (v := 10) hX (dk DX5_init 21 rfl) (by decide) ?_
  refine wp_icmp_ge (tgt := 64) hX (dk DX5_init 22 rfl) (by decide) (fun h_ => absurd h_ (by decide)) (fun _ => ?_)
  refine wp_aload_n hX (dk DX5_init 23 rfl) rfl ?_
  refine t_getr (x := 2) hX flX5_11 (dk DX5_init 24 rfl) (by decide) rfl rfl (nin_P (A := [(2, 7), (2, 8), (2, 9)]) (by decide) hP) (by decide) ?_
  refine wp_iload_n hX (dk DX5_init 25 rfl) rfl ?_
  refine t_new hX cfX1 klX5_9 ciX1 (dk DX5_init 26 rfl) (by decide) (by decide) (by decide) (old_c old_i (old_c (old_r (by decide)) old_0)) (lold_c (old_r (by decide)) (lold_c old_i lold_0)) rfl rfl (hz.up (by decide)) ord34 (lt_P (A := [(2, 7), (2, 8), (2, 9)]) (by decide) hP (by decide)) ?_
  show WP _ _ _ 53 [_, _] [_, _, _] (TT 35 f g ([(34, 0), (34, 1), (34, 2), (2, 7), (2, 8), (2, 9)] ++ P))
  refine wp_dup hX (dk DX5_init 27 rfl) rfl ?_
  refine t_call (As := []) lkX5_27 hX (dk DX5_init 28 rfl) rfl (by decide) (by decide) (by decide) (i_F34 (d + 0) f g ([(2, 7), (2, 8), (2, 9)] ++ P) (lt_P (A := [(2, 7), (2, 8), (2, 9)]) (by decide) hP (by decide)) (hz.up (by decide))) (old_c (old_r (by decide)) (old_c old_i (old_c (old_r (by decide)) old_0))) (lold_c (old_r (by decide)) (lold_c old_i lold_0)) ?_
  show WP _ _ _ 57 [_, _] [_, _, _] (TT 38 f g ([(2, 7), (2, 8), (2, 9)] ++ P))
  refine t_aast (k := 7) (A := []) (B := [(2, 8), (2, 9)] ++ P) hX (dk DX5_init 29 rfl) (by decide) rfl rfl (by decide) (by decide) (by decide) rfl rfl (by decide) (nin_P (A := [(2, 8), (2, 9)]) (by decide) (fun q hq => Nat.lt_trans (hP q hq) (by decide))) ?_
  show WP _ _ _ 58 [_, _] [] (TT 38 f g ([(2, 8), (2, 9)] ++ P))
  refine wp_iinc (v := 8) hX (dk DX5_init 30 rfl) rfl (by decide) rfl hN ?_
  show WP _ _ _ 61 [_, _] [] _
  refine wp_goto (tgt := 39) hX (dk DX5_init 31 rfl) (by decide) ?_
  refine wp_iload_n hX (dk DX5_init 20 rfl) rfl ?_
  refine wp_bipush (v := 10) hX (dk DX5_init 21 rfl) (by decide) ?_
  refine wp_icmp_ge (tgt := 64) hX (dk DX5_init 22 rfl) (by decide) (fun h_ => absurd h_ (by decide)) (fun _ => ?_)
  refine wp_aload_n hX (dk DX5_init 23 rfl) rfl ?_
  refine t_getr (x := 2) hX flX5_11 (dk DX5_init 24 rfl) (by decide) rfl rfl (nin_P (A := [(2, 8), (2, 9)]) (by decide) hP) (by decide) ?_
  refine wp_iload_n hX (dk DX5_init 25 rfl) rfl ?_
  refine t_new hX cfX1 klX5_9 ciX1 (dk DX5_init 26 rfl) (by decide) (by decide) (by decide) (old_c old_i (old_c (old_r (by decide)) old_0)) (lold_c (old_r (by decide)) (lold_c old_i lold_0)) rfl rfl (hz.up (by decide)) ord38 (lt_P (A := [(2, 8), (2, 9)]) (by decide) hP (by decide)) ?_
  show WP _ _ _ 53 [_, _] [_, _, _] (TT 39 f g ([(38, 0), (38, 1), (38, 2), (2, 8), (2, 9)] ++ P))
  refine wp_dup hX (dk DX5_init 27 rfl) rfl ?_
  refine t_call (As := []) lkX5_27 hX (dk DX5_init 28 rfl) rfl (by decide) (by decide) (by decide) (i_F38 (d + 0) f g ([(2, 8), (2, 9)] ++ P) (lt_P (A := [(2, 8), (2, 9)]) (by decide) hP (by decide)) (hz.up (by decide))) (old_c (old_r (by decide)) (old_c old_i (old_c (old_r (by decide)) old_0))) (lold_c (old_r (by decide)) (lold_c old_i lold_0)) ?_
  show WP _ _ _ 57 [_, _] [_, _, _] (TT 42 f g ([(2, 8), (2, 9)] ++ P))
  refine t_aast (k := 8) (A := []) (B := [(2, 9)] ++ P) hX (dk DX5_init 29 rfl) (by decide) rfl rfl (by decide) (by decide) (by decide) rfl rfl (by decide) (nin_P (A := [(2, 9)]) (by decide) (fun q hq => Nat.lt_trans (hP q hq) (by decide))) ?_
  show WP _ _ _ 58 [_, _] [] (TT 42 f g ([(2, 9)] ++ P))
  refine wp_iinc (v := 9) hX (dk DX5_init 30 rfl) rfl (by decide) rfl hN ?_
  show WP _ _ _ 61 [_, _] [] _
  refine wp_goto (tgt := 39) hX (dk DX5_init 31 rfl) (by decide) ?_
  refine wp_iload_n hX (dk DX5_init 20 rfl) rfl ?_
  refine wp_bipush (v := 10) hX (dk DX5_init 21 rfl) (by decide) ?_
  refine wp_icmp_ge (tgt := 64) hX (dk DX5_init 22 rfl) (by decide) (fun h_ => absurd h_ (by decide)) (fun _ => ?_)
  refine wp_aload_n hX (dk DX5_init 23 rfl) rfl ?_
  refine t_getr (x := 2) hX flX5_11 (dk DX5_init 24 rfl) (by decide) rfl rfl (nin_P (A := [(2, 9)]) (by decide) hP) (by decide) ?_
  refine wp_iload_n hX (dk DX5_init 25 rfl) rfl ?_
  refine t_new hX cfX1 klX5_9 ciX1 (dk DX5_init 26 rfl) (by decide) (by decide) (by decide) (old_c old_i (old_c (old_r (by decide)) old_0)) (lold_c (old_r (by decide)) (lold_c old_i lold_0)) rfl rfl (hz.up (by decide)) ord42 (lt_P (A := [(2, 9)]) (by decide) hP (by decide)) ?_
  show WP _ _ _ 53 [_, _] [_, _, _] (TT 43 f g ([(42, 0), (42, 1), (42, 2), (2, 9)] ++ P))
  refine wp_dup hX (dk DX5_init 27 rfl) rfl ?_
  refine t_call (As := []) lkX5_27 hX (dk DX5_init 28 rfl) rfl (by decide) (by decide) (by decide) (i_F42 (d + 0) f g ([(2, 9)] ++ P) (lt_P (A := [(2, 9)]) (by decide) hP (by decide)) (hz.up (by decide))) (old_c (old_r (by decide)) (old_c old_i (old_c (old_r (by decide)) old_0))) (lold_c (old_r (by decide)) (lold_c old_i lold_0)) ?_
  show WP _ _ _ 57 [_, _] [_, _, _] (TT 46 f g ([(2, 9)] ++ P))
  refine t_aast (k := 9) (A := []) (B := [] ++ P) hX (dk DX5_init 29 rfl) (by decide) rfl rfl (by decide) (by decide) (by decide) rfl rfl (by decide) (nin_P (A := []) (by decide) (fun q hq => Nat.lt_trans (hP q hq) (by decide))) ?_
  show WP _ _ _ 58 [_, _] [] (TT 46 f g ([] ++ P))
  refine wp_iinc (v := 10) hX (dk DX5_init 30 rfl) rfl (by decide) rfl hN ?_
  show WP _ _ _ 61 [_, _] [] _
  refine wp_goto (tgt := 39) hX (dk DX5_init 31 rfl) (by decide) ?_
  refine wp_iload_n hX (dk DX5_init 20 rfl) rfl ?_
  refine wp_bipush (v := 10) hX (dk DX5_init 21 rfl) (by decide) ?_
  refine wp_icmp_ge (tgt := 64) hX (dk DX5_init 22 rfl) (by decide) (fun _ => ?_) (fun h_ => absurd (by decide) h_)
  exact wp_return hX hR (dk DX5_init 32 rfl) (by decide) (by decide) ⟨rfl, rfl⟩
theorem i_X7 (d : Nat) (f : Nat → Nat → Int32) (g : Nat → Nat → Int64) (P : List (Nat × Nat)) (hP : ∀ q ∈ P, q.1 < 46) (hz : zf 47 f g) : CT (d + 1) 2 376 iX7_init [.ref 46] (TT 47 f g ([(46, 0), (46, 1)] ++ P)) (QR none (TT 49 f g P)) := by
  refine CT.of rfl (Nat.le_of_ble_eq_true rfl) (fun X hX hR hN hin => ?_)
  have hX : Good X RX7 cX7_init (d + 1) 2 376 := hX
  have hN : x_nl X = 1 := hN
  show WP X 0 0 0 [_] [] _
  refine wp_aload_n hX (dk DX7_init 0 rfl) rfl ?_
  refine wp_obj hX lkX7_3 kin_obj kcd_obj (dk DX7_init 1 rfl) (by decide) ?_
  refine wp_aload_n hX (dk DX7_init 2 rfl) rfl ?_
  refine wp_bipush (v := 120) hX (dk DX7_init 3 rfl) (by decide) ?_
  refine t_newi (N := 120) hX (dk DX7_init 4 rfl) (by decide) (by decide) (by decide) (by decide) (by decide) (by decide) (old_c (old_r (by decide)) old_0) (lold_c (old_r (by decide)) lold_0) rfl rfl (hz.up (by decide)) ord47 (lt_P (A := [(46, 0), (46, 1)]) (by decide) hP (by decide)) ?_
  show WP _ _ _ 9 [_] [_, _] (TT 48 f g ([(46, 0), (46, 1)] ++ P))
  refine t_putF (A := []) (B := [(46, 1)] ++ P) hX (hin rfl) ffX7_11 (dk DX7_init 5 rfl) (by decide) rfl (by decide) rfl (by decide) (nin_P (A := [(46, 1)]) (by decide) hP) ?_
  show WP _ _ _ 12 [_] [] (TT 48 f g ([(46, 1)] ++ P))
  refine wp_aload_n hX (dk DX7_init 6 rfl) rfl ?_
  refine wp_sipush (v := 256) hX (dk DX7_init 7 rfl) (by decide) ?_
  refine t_newi (N := 256) hX (dk DX7_init 8 rfl) (by decide) (by decide) (by decide) (by decide) (by decide) (by decide) (old_c (old_r (by decide)) old_0) (lold_c (old_r (by decide)) lold_0) rfl rfl (hz.up (by decide)) ord48 (lt_P (A := [(46, 1)]) (by decide) hP (by decide)) ?_
  show WP _ _ _ 18 [_] [_, _] (TT 49 f g ([(46, 1)] ++ P))
  refine t_putF (A := []) (B := [] ++ P) hX (hin rfl) ffX7_15 (dk DX7_init 9 rfl) (by decide) rfl (by decide) rfl (by decide) (nin_P (A := []) (by decide) hP) ?_
  show WP _ _ _ 21 [_] [] (TT 49 f g ([] ++ P))
  exact wp_return hX hR (dk DX7_init 10 rfl) (by decide) (by decide) ⟨rfl, rfl⟩
theorem i_X3 (d : Nat) (f : Nat → Nat → Int32) (g : Nat → Nat → Int64) (P : List (Nat × Nat)) (hP : ∀ q ∈ P, q.1 < 49) (hz : zf 50 f g) : CT (d + 1) 3 326 iX3_init [.ref 49] (TT 50 f g ([(49, 0), (49, 1), (49, 2)] ++ P)) (QR none (TT 53 f g P)) := by
  refine CT.of rfl (Nat.le_of_ble_eq_true rfl) (fun X hX hR hN hin => ?_)
  have hX : Good X RX3 cX3_init (d + 1) 3 326 := hX
  have hN : x_nl X = 1 := hN
  show WP X 0 0 0 [_] [] _
  refine wp_aload_n hX (dk DX3_init 0 rfl) rfl ?_
  refine wp_obj hX lkX3_1 kin_obj kcd_obj (dk DX3_init 1 rfl) (by decide) ?_
  refine wp_aload_n hX (dk DX3_init 2 rfl) rfl ?_
  refine wp_sipush (v := 256) hX (dk DX3_init 3 rfl) (by decide) ?_
  refine t_newi (N := 256) hX (dk DX3_init 4 rfl) (by decide) (by decide) (by decide) (by decide) (by decide) (by decide) (old_c (old_r (by decide)) old_0) (lold_c (old_r (by decide)) lold_0) rfl rfl (hz.up (by decide)) ord50 (lt_P (A := [(49, 0), (49, 1), (49, 2)]) (by decide) hP (by decide)) ?_
  show WP _ _ _ 10 [_] [_, _] (TT 51 f g ([(49, 0), (49, 1), (49, 2)] ++ P))
  refine t_putF (A := []) (B := [(49, 1), (49, 2)] ++ P) hX (hin rfl) ffX3_9 (dk DX3_init 5 rfl) (by decide) rfl (by decide) rfl (by decide) (nin_P (A := [(49, 1), (49, 2)]) (by decide) hP) ?_
  show WP _ _ _ 13 [_] [] (TT 51 f g ([(49, 1), (49, 2)] ++ P))
  refine wp_aload_n hX (dk DX3_init 6 rfl) rfl ?_
  refine wp_bipush (v := 6) hX (dk DX3_init 7 rfl) (by decide) ?_
  refine t_newi (N := 6) hX (dk DX3_init 8 rfl) (by decide) (by decide) (by decide) (by decide) (by decide) (by decide) (old_c (old_r (by decide)) old_0) (lold_c (old_r (by decide)) lold_0) rfl rfl (hz.up (by decide)) ord51 (lt_P (A := [(49, 1), (49, 2)]) (by decide) hP (by decide)) ?_
  show WP _ _ _ 18 [_] [_, _] (TT 52 f g ([(49, 1), (49, 2)] ++ P))
  refine t_putF (A := []) (B := [(49, 2)] ++ P) hX (hin rfl) ffX3_15 (dk DX3_init 9 rfl) (by decide) rfl (by decide) rfl (by decide) (nin_P (A := [(49, 2)]) (by decide) hP) ?_
  show WP _ _ _ 21 [_] [] (TT 52 f g ([(49, 2)] ++ P))
  refine wp_aload_n hX (dk DX3_init 10 rfl) rfl ?_
  refine wp_bipush (v := 64) hX (dk DX3_init 11 rfl) (by decide) ?_
  refine t_newi (N := 64) hX (dk DX3_init 12 rfl) (by decide) (by decide) (by decide) (by decide) (by decide) (by decide) (old_c (old_r (by decide)) old_0) (lold_c (old_r (by decide)) lold_0) rfl rfl (hz.up (by decide)) ord52 (lt_P (A := [(49, 2)]) (by decide) hP (by decide)) ?_
  show WP _ _ _ 26 [_] [_, _] (TT 53 f g ([(49, 2)] ++ P))
  refine t_putF (A := []) (B := [] ++ P) hX (hin rfl) ffX3_18 (dk DX3_init 13 rfl) (by decide) rfl (by decide) rfl (by decide) (nin_P (A := []) (by decide) hP) ?_
  show WP _ _ _ 29 [_] [] (TT 53 f g ([] ++ P))
  exact wp_return hX hR (dk DX3_init 14 rfl) (by decide) (by decide) ⟨rfl, rfl⟩
theorem i_X2 (d : Nat) (f : Nat → Nat → Int32) (g : Nat → Nat → Int64) (P : List (Nat × Nat)) (hP : ∀ q ∈ P, q.1 < 53) (hz : zf 54 f g) : CT (d + 1) 4 220 iX2_init [.ref 53, .ref 1, .ref 49] (TT 54 f g ([(53, 2), (53, 3), (53, 4), (53, 5), (53, 0), (53, 1)] ++ P)) (QR none (TT 58 f g P)) := by
  refine CT.of rfl (Nat.le_of_ble_eq_true rfl) (fun X hX hR hN hin => ?_)
  have hX : Good X RX2 cX2_init (d + 1) 4 220 := hX
  have hN : x_nl X = 3 := hN
  show WP X 0 0 0 [_, _, _] [] _
  refine wp_aload_n hX (dk DX2_init 0 rfl) rfl ?_
  refine wp_obj hX lkX2_3 kin_obj kcd_obj (dk DX2_init 1 rfl) (by decide) ?_
  refine wp_aload_n hX (dk DX2_init 2 rfl) rfl ?_
  refine wp_bipush (v := 10) hX (dk DX2_init 3 rfl) (by decide) ?_
  refine t_newi (N := 10) hX (dk DX2_init 4 rfl) (by decide) (by decide) (by decide) (by decide) (by decide) (by decide) (old_c (old_r (by decide)) old_0) (lold_c (old_r (by decide)) (lold_c (old_r (by decide)) (lold_c (old_r (by decide)) lold_0))) rfl rfl (hz.up (by decide)) ord54 (lt_P (A := [(53, 2), (53, 3), (53, 4), (53, 5), (53, 0), (53, 1)]) (by decide) hP (by decide)) ?_
  show WP _ _ _ 9 [_, _, _] [_, _] (TT 55 f g ([(53, 2), (53, 3), (53, 4), (53, 5), (53, 0), (53, 1)] ++ P))
  refine t_putF (A := []) (B := [(53, 3), (53, 4), (53, 5), (53, 0), (53, 1)] ++ P) hX (hin rfl) ffX2_9 (dk DX2_init 5 rfl) (by decide) rfl (by decide) rfl (by decide) (nin_P (A := [(53, 3), (53, 4), (53, 5), (53, 0), (53, 1)]) (by decide) hP) ?_
  show WP _ _ _ 12 [_, _, _] [] (TT 55 f g ([(53, 3), (53, 4), (53, 5), (53, 0), (53, 1)] ++ P))
  refine wp_aload_n hX (dk DX2_init 6 rfl) rfl ?_
  refine wp_bipush (v := 100) hX (dk DX2_init 7 rfl) (by decide) ?_
  refine t_newi (N := 100) hX (dk DX2_init 8 rfl) (by decide) (by decide) (by decide) (by decide) (by decide) (by decide) (old_c (old_r (by decide)) old_0) (lold_c (old_r (by decide)) (lold_c (old_r (by decide)) (lold_c (old_r (by decide)) lold_0))) rfl rfl (hz.up (by decide)) ord55 (lt_P (A := [(53, 3), (53, 4), (53, 5), (53, 0), (53, 1)]) (by decide) hP (by decide)) ?_
  show WP _ _ _ 17 [_, _, _] [_, _] (TT 56 f g ([(53, 3), (53, 4), (53, 5), (53, 0), (53, 1)] ++ P))
  refine t_putF (A := []) (B := [(53, 4), (53, 5), (53, 0), (53, 1)] ++ P) hX (hin rfl) ffX2_15 (dk DX2_init 9 rfl) (by decide) rfl (by decide) rfl (by decide) (nin_P (A := [(53, 4), (53, 5), (53, 0), (53, 1)]) (by decide) hP) ?_
  show WP _ _ _ 20 [_, _, _] [] (TT 56 f g ([(53, 4), (53, 5), (53, 0), (53, 1)] ++ P))
  refine wp_aload_n hX (dk DX2_init 10 rfl) rfl ?_
  refine wp_bipush (v := 100) hX (dk DX2_init 11 rfl) (by decide) ?_
  refine t_newi (N := 100) hX (dk DX2_init 12 rfl) (by decide) (by decide) (by decide) (by decide) (by decide) (by decide) (old_c (old_r (by decide)) old_0) (lold_c (old_r (by decide)) (lold_c (old_r (by decide)) (lold_c (old_r (by decide)) lold_0))) rfl rfl (hz.up (by decide)) ord56 (lt_P (A := [(53, 4), (53, 5), (53, 0), (53, 1)]) (by decide) hP (by decide)) ?_
  show WP _ _ _ 25 [_, _, _] [_, _] (TT 57 f g ([(53, 4), (53, 5), (53, 0), (53, 1)] ++ P))
  refine t_putF (A := []) (B := [(53, 5), (53, 0), (53, 1)] ++ P) hX (hin rfl) ffX2_18 (dk DX2_init 13 rfl) (by decide) rfl (by decide) rfl (by decide) (nin_P (A := [(53, 5), (53, 0), (53, 1)]) (by decide) hP) ?_
  show WP _ _ _ 28 [_, _, _] [] (TT 57 f g ([(53, 5), (53, 0), (53, 1)] ++ P))
  refine wp_aload_n hX (dk DX2_init 14 rfl) rfl ?_
  refine wp_bipush (v := 10) hX (dk DX2_init 15 rfl) (by decide) ?_
  refine t_newi (N := 10) hX (dk DX2_init 16 rfl) (by decide) (by decide) (by decide) (by decide) (by decide) (by decide) (old_c (old_r (by decide)) old_0) (lold_c (old_r (by decide)) (lold_c (old_r (by decide)) (lold_c (old_r (by decide)) lold_0))) rfl rfl (hz.up (by decide)) ord57 (lt_P (A := [(53, 5), (53, 0), (53, 1)]) (by decide) hP (by decide)) ?_
  show WP _ _ _ 33 [_, _, _] [_, _] (TT 58 f g ([(53, 5), (53, 0), (53, 1)] ++ P))
  refine t_putF (A := []) (B := [(53, 0), (53, 1)] ++ P) hX (hin rfl) ffX2_21 (dk DX2_init 17 rfl) (by decide) rfl (by decide) rfl (by decide) (nin_P (A := [(53, 0), (53, 1)]) (by decide) hP) ?_
  show WP _ _ _ 36 [_, _, _] [] (TT 58 f g ([(53, 0), (53, 1)] ++ P))
  refine wp_aload_n hX (dk DX2_init 18 rfl) rfl ?_
  refine wp_aload_n hX (dk DX2_init 19 rfl) rfl ?_
  refine t_putF (A := []) (B := [(53, 1)] ++ P) hX (hin rfl) ffX2_24 (dk DX2_init 20 rfl) (by decide) rfl (by decide) rfl (by decide) (nin_P (A := [(53, 1)]) (by decide) hP) ?_
  show WP _ _ _ 41 [_, _, _] [] (TT 58 f g ([(53, 1)] ++ P))
  refine wp_aload_n hX (dk DX2_init 21 rfl) rfl ?_
  refine wp_aload_n hX (dk DX2_init 22 rfl) rfl ?_
  refine t_putF (A := []) (B := [] ++ P) hX (hin rfl) ffX2_28 (dk DX2_init 23 rfl) (by decide) rfl (by decide) rfl (by decide) (nin_P (A := []) (by decide) hP) ?_
  show WP _ _ _ 46 [_, _, _] [] (TT 58 f g ([] ++ P))
  exact wp_return hX hR (dk DX2_init 24 rfl) (by decide) (by decide) ⟨rfl, rfl⟩
theorem i_X8 (d : Nat) (f : Nat → Nat → Int32) (g : Nat → Nat → Int64) (P : List (Nat × Nat)) (hP : ∀ q ∈ P, q.1 < 58) (hz : zf 59 f g) : CT (d + 1) 2 20 iX8_init [.ref 58, .ref 1] (TT 59 f g ([(58, 1), (58, 2), (58, 0)] ++ P)) (QR none (TT 61 f g P)) := by
  refine CT.of rfl (Nat.le_of_ble_eq_true rfl) (fun X hX hR hN hin => ?_)
  have hX : Good X RX8 cX8_init (d + 1) 2 20 := hX
  have hN : x_nl X = 2 := hN
  show WP X 0 0 0 [_, _] [] _
  refine wp_aload_n hX (dk DX8_init 0 rfl) rfl ?_
  refine wp_obj hX lkX8_3 kin_obj kcd_obj (dk DX8_init 1 rfl) (by decide) ?_
  refine wp_aload_n hX (dk DX8_init 2 rfl) rfl ?_
  refine wp_bipush (v := 10) hX (dk DX8_init 3 rfl) (by decide) ?_
  refine t_newi (N := 10) hX (dk DX8_init 4 rfl) (by decide) (by decide) (by decide) (by decide) (by decide) (by decide) (old_c (old_r (by decide)) old_0) (lold_c (old_r (by decide)) (lold_c (old_r (by decide)) lold_0)) rfl rfl (hz.up (by decide)) ord59 (lt_P (A := [(58, 1), (58, 2), (58, 0)]) (by decide) hP (by decide)) ?_
  show WP _ _ _ 9 [_, _] [_, _] (TT 60 f g ([(58, 1), (58, 2), (58, 0)] ++ P))
  refine t_putr (A := []) (B := [(58, 2), (58, 0)] ++ P) hX fpX8_9 (dk DX8_init 5 rfl) (by decide) rfl (by decide) rfl (by decide) (nin_P (A := [(58, 2), (58, 0)]) (by decide) hP) ?_
  show WP _ _ _ 12 [_, _] [] (TT 60 f g ([(58, 2), (58, 0)] ++ P))
  refine wp_aload_n hX (dk DX8_init 6 rfl) rfl ?_
  refine wp_bipush (v := 10) hX (dk DX8_init 7 rfl) (by decide) ?_
  refine t_newi (N := 10) hX (dk DX8_init 8 rfl) (by decide) (by decide) (by decide) (by decide) (by decide) (by decide) (old_c (old_r (by decide)) old_0) (lold_c (old_r (by decide)) (lold_c (old_r (by decide)) lold_0)) rfl rfl (hz.up (by decide)) ord60 (lt_P (A := [(58, 2), (58, 0)]) (by decide) hP (by decide)) ?_
  show WP _ _ _ 17 [_, _] [_, _] (TT 61 f g ([(58, 2), (58, 0)] ++ P))
  refine t_putr (A := []) (B := [(58, 0)] ++ P) hX fpX8_15 (dk DX8_init 9 rfl) (by decide) rfl (by decide) rfl (by decide) (nin_P (A := [(58, 0)]) (by decide) hP) ?_
  show WP _ _ _ 20 [_, _] [] (TT 61 f g ([(58, 0)] ++ P))
  refine wp_aload_n hX (dk DX8_init 10 rfl) rfl ?_
  refine wp_aload_n hX (dk DX8_init 11 rfl) rfl ?_
  refine t_putF (A := []) (B := [] ++ P) hX (hin rfl) ffX8_18 (dk DX8_init 12 rfl) (by decide) rfl (by decide) rfl (by decide) (nin_P (A := []) (by decide) hP) ?_
  show WP _ _ _ 25 [_, _] [] (TT 61 f g ([] ++ P))
  exact wp_return hX hR (dk DX8_init 13 rfl) (by decide) (by decide) ⟨rfl, rfl⟩
theorem i_X9 (d : Nat) (f : Nat → Nat → Int32) (g : Nat → Nat → Int64) (P : List (Nat × Nat)) (hP : ∀ q ∈ P, q.1 < 61) (hz : zf 62 f g) : CT (d + 1) 6 32 iX9_init [.ref 61] (TT 62 f g ([(61, 0), (61, 1), (61, 2), (61, 3), (61, 4), (61, 5)] ++ P)) (QR none (TT 68 f g P)) := by
  refine CT.of rfl (Nat.le_of_ble_eq_true rfl) (fun X hX hR hN hin => ?_)
  have hX : Good X RX9 cX9_init (d + 1) 6 32 := hX
  have hN : x_nl X = 1 := hN
  show WP X 0 0 0 [_] [] _
  refine wp_aload_n hX (dk DX9_init 0 rfl) rfl ?_
  refine wp_obj hX lkX9_3 kin_obj kcd_obj (dk DX9_init 1 rfl) (by decide) ?_
  refine wp_aload_n hX (dk DX9_init 2 rfl) rfl ?_
  refine wp_bipush (v := 6) hX (dk DX9_init 3 rfl) (by decide) ?_
  refine t_newi (N := 6) hX (dk DX9_init 4 rfl) (by decide) (by decide) (by decide) (by decide) (by decide) (by decide) (old_c (old_r (by decide)) old_0) (lold_c (old_r (by decide)) lold_0) rfl rfl (hz.up (by decide)) ord62 (lt_P (A := [(61, 0), (61, 1), (61, 2), (61, 3), (61, 4), (61, 5)]) (by decide) hP (by decide)) ?_
  show WP _ _ _ 9 [_] [_, _] (TT 63 f g ([(61, 0), (61, 1), (61, 2), (61, 3), (61, 4), (61, 5)] ++ P))
  refine t_putF (A := []) (B := [(61, 1), (61, 2), (61, 3), (61, 4), (61, 5)] ++ P) hX (hin rfl) ffX9_11 (dk DX9_init 5 rfl) (by decide) rfl (by decide) rfl (by decide) (nin_P (A := [(61, 1), (61, 2), (61, 3), (61, 4), (61, 5)]) (by decide) hP) ?_
  show WP _ _ _ 12 [_] [] (TT 63 f g ([(61, 1), (61, 2), (61, 3), (61, 4), (61, 5)] ++ P))
  refine wp_aload_n hX (dk DX9_init 6 rfl) rfl ?_
  refine wp_bipush (v := 6) hX (dk DX9_init 7 rfl) (by decide) ?_
  refine t_newi (N := 6) hX (dk DX9_init 8 rfl) (by decide) (by decide) (by decide) (by decide) (by decide) (by decide) (old_c (old_r (by decide)) old_0) (lold_c (old_r (by decide)) lold_0) rfl rfl (hz.up (by decide)) ord63 (lt_P (A := [(61, 1), (61, 2), (61, 3), (61, 4), (61, 5)]) (by decide) hP (by decide)) ?_
  show WP _ _ _ 17 [_] [_, _] (TT 64 f g ([(61, 1), (61, 2), (61, 3), (61, 4), (61, 5)] ++ P))
  refine t_putF (A := []) (B := [(61, 2), (61, 3), (61, 4), (61, 5)] ++ P) hX (hin rfl) ffX9_15 (dk DX9_init 9 rfl) (by decide) rfl (by decide) rfl (by decide) (nin_P (A := [(61, 2), (61, 3), (61, 4), (61, 5)]) (by decide) hP) ?_
  show WP _ _ _ 20 [_] [] (TT 64 f g ([(61, 2), (61, 3), (61, 4), (61, 5)] ++ P))
  refine wp_aload_n hX (dk DX9_init 10 rfl) rfl ?_
  refine wp_iconst (v := 4) hX (dk DX9_init 11 rfl) (by decide) ?_
  refine t_newi (N := 4) hX (dk DX9_init 12 rfl) (by decide) (by decide) (by decide) (by decide) (by decide) (by decide) (old_c (old_r (by decide)) old_0) (lold_c (old_r (by decide)) lold_0) rfl rfl (hz.up (by decide)) ord64 (lt_P (A := [(61, 2), (61, 3), (61, 4), (61, 5)]) (by decide) hP (by decide)) ?_
  show WP _ _ _ 24 [_] [_, _] (TT 65 f g ([(61, 2), (61, 3), (61, 4), (61, 5)] ++ P))
  refine t_putF (A := []) (B := [(61, 3), (61, 4), (61, 5)] ++ P) hX (hin rfl) ffX9_18 (dk DX9_init 13 rfl) (by decide) rfl (by decide) rfl (by decide) (nin_P (A := [(61, 3), (61, 4), (61, 5)]) (by decide) hP) ?_
  show WP _ _ _ 27 [_] [] (TT 65 f g ([(61, 3), (61, 4), (61, 5)] ++ P))
  refine wp_aload_n hX (dk DX9_init 14 rfl) rfl ?_
  refine wp_bipush (v := 6) hX (dk DX9_init 15 rfl) (by decide) ?_
  refine t_newi (N := 6) hX (dk DX9_init 16 rfl) (by decide) (by decide) (by decide) (by decide) (by decide) (by decide) (old_c (old_r (by decide)) old_0) (lold_c (old_r (by decide)) lold_0) rfl rfl (hz.up (by decide)) ord65 (lt_P (A := [(61, 3), (61, 4), (61, 5)]) (by decide) hP (by decide)) ?_
  show WP _ _ _ 32 [_] [_, _] (TT 66 f g ([(61, 3), (61, 4), (61, 5)] ++ P))
  refine t_putF (A := []) (B := [(61, 4), (61, 5)] ++ P) hX (hin rfl) ffX9_21 (dk DX9_init 17 rfl) (by decide) rfl (by decide) rfl (by decide) (nin_P (A := [(61, 4), (61, 5)]) (by decide) hP) ?_
  show WP _ _ _ 35 [_] [] (TT 66 f g ([(61, 4), (61, 5)] ++ P))
  refine wp_aload_n hX (dk DX9_init 18 rfl) rfl ?_
  refine wp_bipush (v := 6) hX (dk DX9_init 19 rfl) (by decide) ?_
  refine t_newi (N := 6) hX (dk DX9_init 20 rfl) (by decide) (by decide) (by decide) (by decide) (by decide) (by decide) (old_c (old_r (by decide)) old_0) (lold_c (old_r (by decide)) lold_0) rfl rfl (hz.up (by decide)) ord66 (lt_P (A := [(61, 4), (61, 5)]) (by decide) hP (by decide)) ?_
  show WP _ _ _ 40 [_] [_, _] (TT 67 f g ([(61, 4), (61, 5)] ++ P))
  refine t_putF (A := []) (B := [(61, 5)] ++ P) hX (hin rfl) ffX9_24 (dk DX9_init 21 rfl) (by decide) rfl (by decide) rfl (by decide) (nin_P (A := [(61, 5)]) (by decide) hP) ?_
  show WP _ _ _ 43 [_] [] (TT 67 f g ([(61, 5)] ++ P))
  refine wp_aload_n hX (dk DX9_init 22 rfl) rfl ?_
  refine wp_iconst (v := 4) hX (dk DX9_init 23 rfl) (by decide) ?_
  refine t_newi (N := 4) hX (dk DX9_init 24 rfl) (by decide) (by decide) (by decide) (by decide) (by decide) (by decide) (old_c (old_r (by decide)) old_0) (lold_c (old_r (by decide)) lold_0) rfl rfl (hz.up (by decide)) ord67 (lt_P (A := [(61, 5)]) (by decide) hP (by decide)) ?_
  show WP _ _ _ 47 [_] [_, _] (TT 68 f g ([(61, 5)] ++ P))
  refine t_putF (A := []) (B := [] ++ P) hX (hin rfl) ffX9_27 (dk DX9_init 25 rfl) (by decide) rfl (by decide) rfl (by decide) (nin_P (A := []) (by decide) hP) ?_
  show WP _ _ _ 50 [_] [] (TT 68 f g ([] ++ P))
  exact wp_return hX hR (dk DX9_init 26 rfl) (by decide) (by decide) ⟨rfl, rfl⟩
theorem i_X0 (d : Nat) (f : Nat → Nat → Int32) (g : Nat → Nat → Int64) (P : List (Nat × Nat)) (hP : ∀ q ∈ P, q.1 < 68) (hz : zf 69 f g) : CT (d + 1) 1 160 iX0_init [.ref 68] (TT 69 f g ([(68, 0)] ++ P)) (QR none (TT 70 f g P)) := by
  refine CT.of rfl (Nat.le_of_ble_eq_true rfl) (fun X hX hR hN hin => ?_)
  have hX : Good X RX0 cX0_init (d + 1) 1 160 := hX
  have hN : x_nl X = 1 := hN
  show WP X 0 0 0 [_] [] _
  refine wp_aload_n hX (dk DX0_init 0 rfl) rfl ?_
  refine wp_obj hX lkX0_3 kin_obj kcd_obj (dk DX0_init 1 rfl) (by decide) ?_
  refine wp_aload_n hX (dk DX0_init 2 rfl) rfl ?_
  refine wp_sipush (v := 160) hX (dk DX0_init 3 rfl) (by decide) ?_
  refine t_newi (N := 160) hX (dk DX0_init 4 rfl) (by decide) (by decide) (by decide) (by decide) (by decide) (by decide) (old_c (old_r (by decide)) old_0) (lold_c (old_r (by decide)) lold_0) rfl rfl (hz.up (by decide)) ord69 (lt_P (A := [(68, 0)]) (by decide) hP (by decide)) ?_
  show WP _ _ _ 10 [_] [_, _] (TT 70 f g ([(68, 0)] ++ P))
  refine t_putF (A := []) (B := [] ++ P) hX (hin rfl) ffX0_11 (dk DX0_init 5 rfl) (by decide) rfl (by decide) rfl (by decide) (nin_P (A := []) (by decide) hP) ?_
  show WP _ _ _ 13 [_] [] (TT 70 f g ([] ++ P))
  exact wp_return hX hR (dk DX0_init 6 rfl) (by decide) (by decide) ⟨rfl, rfl⟩
theorem i_X6 (d : Nat) (f : Nat → Nat → Int32) (g : Nat → Nat → Int64) (P : List (Nat × Nat)) (hP : ∀ q ∈ P, q.1 < 70) (hz : zf 71 f g) : CT (d + 1) 2 74 iX6_init [.ref 70] (TT 71 f g ([(70, 0), (70, 1)] ++ P)) (QR none (TT 73 f g P)) := by
  refine CT.of rfl (Nat.le_of_ble_eq_true rfl) (fun X hX hR hN hin => ?_)
  have hX : Good X RX6 cX6_init (d + 1) 2 74 := hX
  have hN : x_nl X = 1 := hN
  show WP X 0 0 0 [_] [] _
  refine wp_aload_n hX (dk DX6_init 0 rfl) rfl ?_
  refine wp_obj hX lkX6_3 kin_obj kcd_obj (dk DX6_init 1 rfl) (by decide) ?_
  refine wp_aload_n hX (dk DX6_init 2 rfl) rfl ?_
  refine wp_bipush (v := 50) hX (dk DX6_init 3 rfl) (by decide) ?_
  refine t_newi (N := 50) hX (dk DX6_init 4 rfl) (by decide) (by decide) (by decide) (by decide) (by decide) (by decide) (old_c (old_r (by decide)) old_0) (lold_c (old_r (by decide)) lold_0) rfl rfl (hz.up (by decide)) ord71 (lt_P (A := [(70, 0), (70, 1)]) (by decide) hP (by decide)) ?_
  show WP _ _ _ 9 [_] [_, _] (TT 72 f g ([(70, 0), (70, 1)] ++ P))
  refine t_putF (A := []) (B := [(70, 1)] ++ P) hX (hin rfl) ffX6_11 (dk DX6_init 5 rfl) (by decide) rfl (by decide) rfl (by decide) (nin_P (A := [(70, 1)]) (by decide) hP) ?_
  show WP _ _ _ 12 [_] [] (TT 72 f g ([(70, 1)] ++ P))
  refine wp_aload_n hX (dk DX6_init 6 rfl) rfl ?_
  refine wp_bipush (v := 24) hX (dk DX6_init 7 rfl) (by decide) ?_
  refine t_newi (N := 24) hX (dk DX6_init 8 rfl) (by decide) (by decide) (by decide) (by decide) (by decide) (by decide) (old_c (old_r (by decide)) old_0) (lold_c (old_r (by decide)) lold_0) rfl rfl (hz.up (by decide)) ord72 (lt_P (A := [(70, 1)]) (by decide) hP (by decide)) ?_
  show WP _ _ _ 17 [_] [_, _] (TT 73 f g ([(70, 1)] ++ P))
  refine t_putF (A := []) (B := [] ++ P) hX (hin rfl) ffX6_15 (dk DX6_init 9 rfl) (by decide) rfl (by decide) rfl (by decide) (nin_P (A := []) (by decide) hP) ?_
  show WP _ _ _ 20 [_] [] (TT 73 f g ([] ++ P))
  exact wp_return hX hR (dk DX6_init 10 rfl) (by decide) (by decide) ⟨rfl, rfl⟩
/-- no shelf holds anything -/
def shF (f : Nat → Nat → Int32) : Nat → Nat → Int32 := (u2 (u2 (u2 (u2 (u2 (u2 f 74 0 (-1)) 74 1 (-1)) 74 2 (-1)) 74 3 (-1)) 74 4 (-1)) 74 5 (-1))
theorem shF_z {n : Nat} {f : Nat → Nat → Int32} {g : Nat → Nat → Int64} (h : zf n f g) (hn : n ≤ 75) : zf 75 (shF f) g := fun b hb => ⟨by unfold shF; simp only [u2_ne _ _ _ (show b ≠ 74 by omega)]; exact (h b (by omega)).1, (h b (by omega)).2⟩
theorem i_X4 (d : Nat) (f : Nat → Nat → Int32) (g : Nat → Nat → Int64) (P : List (Nat × Nat)) (hP : ∀ q ∈ P, q.1 < 73) (hz : zf 74 f g) : CT (d + 1) 3 372 iX4_init [.ref 73] (TT 74 f g ([(73, 0), (73, 1), (73, 2)] ++ P)) (QR none (TT 77 (shF f) g P)) := by
  refine CT.of rfl (Nat.le_of_ble_eq_true rfl) (fun X hX hR hN hin => ?_)
  have hX : Good X RX4 cX4_init (d + 1) 3 372 := hX
  have hN : x_nl X = 1 := hN
  show WP X 0 0 0 [_] [] _
  refine wp_aload_n hX (dk DX4_init 0 rfl) rfl ?_
  refine wp_obj hX lkX4_1 kin_obj kcd_obj (dk DX4_init 1 rfl) (by decide) ?_
  refine wp_aload_n hX (dk DX4_init 2 rfl) rfl ?_
  refine wp_bipush (v := 6) hX (dk DX4_init 3 rfl) (by decide) ?_
  refine t_newi (N := 6) hX (dk DX4_init 4 rfl) (by decide) (by decide) (by decide) (by decide) (by decide) (by decide) (old_c (old_r (by decide)) old_0) (lold_c (old_r (by decide)) lold_0) rfl rfl (hz.up (by decide)) ord74 (lt_P (A := [(73, 0), (73, 1), (73, 2)]) (by decide) hP (by decide)) ?_
  show WP _ _ _ 9 [_] [_, _] (TT 75 f g ([(73, 0), (73, 1), (73, 2)] ++ P))
  refine wp_dup hX (dk DX4_init 5 rfl) rfl ?_
  refine wp_iconst (v := 0) hX (dk DX4_init 6 rfl) (by decide) ?_
  refine wp_iconst (v := -1) hX (dk DX4_init 7 rfl) (by decide) ?_
  refine t_iast (k := 0) hX (dk DX4_init 8 rfl) (by decide) rfl rfl (by decide) (by decide) ?_
  refine wp_dup hX (dk DX4_init 9 rfl) rfl ?_
  refine wp_iconst (v := 1) hX (dk DX4_init 10 rfl) (by decide) ?_
  refine wp_iconst (v := -1) hX (dk DX4_init 11 rfl) (by decide) ?_
  refine t_iast (k := 1) hX (dk DX4_init 12 rfl) (by decide) rfl rfl (by decide) (by decide) ?_
  refine wp_dup hX (dk DX4_init 13 rfl) rfl ?_
  refine wp_iconst (v := 2) hX (dk DX4_init 14 rfl) (by decide) ?_
  refine wp_iconst (v := -1) hX (dk DX4_init 15 rfl) (by decide) ?_
  refine t_iast (k := 2) hX (dk DX4_init 16 rfl) (by decide) rfl rfl (by decide) (by decide) ?_
  refine wp_dup hX (dk DX4_init 17 rfl) rfl ?_
  refine wp_iconst (v := 3) hX (dk DX4_init 18 rfl) (by decide) ?_
  refine wp_iconst (v := -1) hX (dk DX4_init 19 rfl) (by decide) ?_
  refine t_iast (k := 3) hX (dk DX4_init 20 rfl) (by decide) rfl rfl (by decide) (by decide) ?_
  refine wp_dup hX (dk DX4_init 21 rfl) rfl ?_
  refine wp_iconst (v := 4) hX (dk DX4_init 22 rfl) (by decide) ?_
  refine wp_iconst (v := -1) hX (dk DX4_init 23 rfl) (by decide) ?_
  refine t_iast (k := 4) hX (dk DX4_init 24 rfl) (by decide) rfl rfl (by decide) (by decide) ?_
  refine wp_dup hX (dk DX4_init 25 rfl) rfl ?_
  refine wp_iconst (v := 5) hX (dk DX4_init 26 rfl) (by decide) ?_
  refine wp_iconst (v := -1) hX (dk DX4_init 27 rfl) (by decide) ?_
  refine t_iast (k := 5) hX (dk DX4_init 28 rfl) (by decide) rfl rfl (by decide) (by decide) ?_
  refine t_putF (A := []) (B := [(73, 1), (73, 2)] ++ P) hX (hin rfl) ffX4_9 (dk DX4_init 29 rfl) (by decide) rfl (by decide) rfl (by decide) (nin_P (A := [(73, 1), (73, 2)]) (by decide) hP) ?_
  show WP _ _ _ 36 [_] [] (TT 75 (u2 (u2 (u2 (u2 (u2 (u2 f 74 0 (-1)) 74 1 (-1)) 74 2 (-1)) 74 3 (-1)) 74 4 (-1)) 74 5 (-1)) g ([(73, 1), (73, 2)] ++ P))
  refine wp_aload_n hX (dk DX4_init 30 rfl) rfl ?_
  refine wp_bipush (v := 6) hX (dk DX4_init 31 rfl) (by decide) ?_
  refine t_newi (N := 6) hX (dk DX4_init 32 rfl) (by decide) (by decide) (by decide) (by decide) (by decide) (by decide) (old_c (old_r (by decide)) old_0) (lold_c (old_r (by decide)) lold_0) rfl rfl ((zf_u2 ((zf_u2 ((zf_u2 ((zf_u2 ((zf_u2 ((zf_u2 (hz.up (show 74 ≤ 75 by decide)) (by decide)).up (show 75 ≤ 75 by decide)) (by decide)).up (show 75 ≤ 75 by decide)) (by decide)).up (show 75 ≤ 75 by decide)) (by decide)).up (show 75 ≤ 75 by decide)) (by decide)).up (show 75 ≤ 75 by decide)) (by decide)).up (by decide)) ord75 (lt_P (A := [(73, 1), (73, 2)]) (by decide) hP (by decide)) ?_
  show WP _ _ _ 41 [_] [_, _] (TT 76 (u2 (u2 (u2 (u2 (u2 (u2 f 74 0 (-1)) 74 1 (-1)) 74 2 (-1)) 74 3 (-1)) 74 4 (-1)) 74 5 (-1)) g ([(73, 1), (73, 2)] ++ P))
  refine t_putF (A := []) (B := [(73, 2)] ++ P) hX (hin rfl) ffX4_13 (dk DX4_init 33 rfl) (by decide) rfl (by decide) rfl (by decide) (nin_P (A := [(73, 2)]) (by decide) hP) ?_
  show WP _ _ _ 44 [_] [] (TT 76 (u2 (u2 (u2 (u2 (u2 (u2 f 74 0 (-1)) 74 1 (-1)) 74 2 (-1)) 74 3 (-1)) 74 4 (-1)) 74 5 (-1)) g ([(73, 2)] ++ P))
  refine wp_aload_n hX (dk DX4_init 34 rfl) rfl ?_
  refine wp_sipush (v := 360) hX (dk DX4_init 35 rfl) (by decide) ?_
  refine t_newl (N := 360) hX (dk DX4_init 36 rfl) (by decide) (by decide) (by decide) (by decide) (by decide) (by decide) (old_c (old_r (by decide)) old_0) (lold_c (old_r (by decide)) lold_0) rfl rfl ((zf_u2 ((zf_u2 ((zf_u2 ((zf_u2 ((zf_u2 ((zf_u2 (hz.up (show 74 ≤ 75 by decide)) (by decide)).up (show 75 ≤ 75 by decide)) (by decide)).up (show 75 ≤ 75 by decide)) (by decide)).up (show 75 ≤ 75 by decide)) (by decide)).up (show 75 ≤ 75 by decide)) (by decide)).up (show 75 ≤ 75 by decide)) (by decide)).up (by decide)) ord76 (lt_P (A := [(73, 2)]) (by decide) hP (by decide)) ?_
  show WP _ _ _ 50 [_] [_, _] (TT 77 (u2 (u2 (u2 (u2 (u2 (u2 f 74 0 (-1)) 74 1 (-1)) 74 2 (-1)) 74 3 (-1)) 74 4 (-1)) 74 5 (-1)) g ([(73, 2)] ++ P))
  refine t_putF (A := []) (B := [] ++ P) hX (hin rfl) ffX4_16 (dk DX4_init 37 rfl) (by decide) rfl (by decide) rfl (by decide) (nin_P (A := []) (by decide) hP) ?_
  show WP _ _ _ 53 [_] [] (TT 77 (u2 (u2 (u2 (u2 (u2 (u2 f 74 0 (-1)) 74 1 (-1)) 74 2 (-1)) 74 3 (-1)) 74 4 (-1)) 74 5 (-1)) g ([] ++ P))
  exact wp_return hX hR (dk DX4_init 38 rfl) (by decide) (by decide) ⟨rfl, rfl⟩
