/-! CONSTRUCTORS: the object, the reference -/
theorem i_X10 (d : Nat) (f : Nat → Nat → Int32) (g : Nat → Nat → Int64) (P : List (Nat × Nat)) (hP : ∀ q ∈ P, q.1 < 0) (hz : zf 1 f g) : CT (d + 3) 80 3995 iX10_init [.ref 0] (TT 1 f g ([(0, 0), (0, 1), (0, 2), (0, 3), (0, 4), (0, 5), (0, 6), (0, 7), (0, 8), (0, 9)] ++ P)) (QR none (TT 81 (shF f) g P)) := by
  refine CT.of rfl (Nat.le_of_ble_eq_true rfl) (fun X hX hR hN hin => ?_)
  have hX : Good X RX10 cX10_init (d + 3) 80 3995 := hX
  have hN : x_nl X = 1 := hN
  show WP X 0 0 0 [_] [] _
  refine wp_aload_n hX (dk DX10_init 0 rfl) rfl ?_
  refine wp_obj hX lkX10_1 kin_obj kcd_obj (dk DX10_init 1 rfl) (by decide) ?_
  refine wp_aload_n hX (dk DX10_init 2 rfl) rfl ?_
  refine t_new hX cfX5 klX10_7 ciX5 (dk DX10_init 3 rfl) (by decide) (by decide) (by decide) (old_c (old_r (by decide)) old_0) (lold_c (old_r (by decide)) lold_0) rfl rfl (hz.up (by decide)) ord1 (lt_P (A := [(0, 0), (0, 1), (0, 2), (0, 3), (0, 4), (0, 5), (0, 6), (0, 7), (0, 8), (0, 9)]) (by decide) hP (by decide)) ?_
  show WP _ _ _ 8 [_] [_, _] (TT 2 f g ([(1, 0), (1, 1), (1, 2), (1, 3), (0, 0), (0, 1), (0, 2), (0, 3), (0, 4), (0, 5), (0, 6), (0, 7), (0, 8), (0, 9)] ++ P))
  refine wp_dup hX (dk DX10_init 4 rfl) rfl ?_
  refine t_call (As := []) lkX10_9 hX (dk DX10_init 5 rfl) rfl (by decide) (by decide) (by decide) (i_X5 (d + 0) f g ([(0, 0), (0, 1), (0, 2), (0, 3), (0, 4), (0, 5), (0, 6), (0, 7), (0, 8), (0, 9)] ++ P) (lt_P (A := [(0, 0), (0, 1), (0, 2), (0, 3), (0, 4), (0, 5), (0, 6), (0, 7), (0, 8), (0, 9)]) (by decide) hP (by decide)) (hz.up (by decide))) (old_c (old_r (by decide)) (old_c (old_r (by decide)) old_0)) (lold_c (old_r (by decide)) lold_0) ?_
  show WP _ _ _ 12 [_] [_, _] (TT 46 f g ([(0, 0), (0, 1), (0, 2), (0, 3), (0, 4), (0, 5), (0, 6), (0, 7), (0, 8), (0, 9)] ++ P))
  refine t_putF (A := []) (B := [(0, 1), (0, 2), (0, 3), (0, 4), (0, 5), (0, 6), (0, 7), (0, 8), (0, 9)] ++ P) hX (hin rfl) ffX10_10 (dk DX10_init 6 rfl) (by decide) rfl (by decide) rfl (by decide) (nin_P (A := [(0, 1), (0, 2), (0, 3), (0, 4), (0, 5), (0, 6), (0, 7), (0, 8), (0, 9)]) (by decide) hP) ?_
  show WP _ _ _ 15 [_] [] (TT 46 f g ([(0, 1), (0, 2), (0, 3), (0, 4), (0, 5), (0, 6), (0, 7), (0, 8), (0, 9)] ++ P))
  refine wp_aload_n hX (dk DX10_init 7 rfl) rfl ?_
  refine t_new hX cfX7 klX10_16 ciX7 (dk DX10_init 8 rfl) (by decide) (by decide) (by decide) (old_c (old_r (by decide)) old_0) (lold_c (old_r (by decide)) lold_0) rfl rfl (hz.up (by decide)) ord46 (lt_P (A := [(0, 1), (0, 2), (0, 3), (0, 4), (0, 5), (0, 6), (0, 7), (0, 8), (0, 9)]) (by decide) hP (by decide)) ?_
  show WP _ _ _ 19 [_] [_, _] (TT 47 f g ([(46, 0), (46, 1), (0, 1), (0, 2), (0, 3), (0, 4), (0, 5), (0, 6), (0, 7), (0, 8), (0, 9)] ++ P))
  refine wp_dup hX (dk DX10_init 9 rfl) rfl ?_
  refine t_call (As := []) lkX10_18 hX (dk DX10_init 10 rfl) rfl (by decide) (by decide) (by decide) (i_X7 (d + 1) f g ([(0, 1), (0, 2), (0, 3), (0, 4), (0, 5), (0, 6), (0, 7), (0, 8), (0, 9)] ++ P) (lt_P (A := [(0, 1), (0, 2), (0, 3), (0, 4), (0, 5), (0, 6), (0, 7), (0, 8), (0, 9)]) (by decide) hP (by decide)) (hz.up (by decide))) (old_c (old_r (by decide)) (old_c (old_r (by decide)) old_0)) (lold_c (old_r (by decide)) lold_0) ?_
  show WP _ _ _ 23 [_] [_, _] (TT 49 f g ([(0, 1), (0, 2), (0, 3), (0, 4), (0, 5), (0, 6), (0, 7), (0, 8), (0, 9)] ++ P))
  refine t_putF (A := []) (B := [(0, 2), (0, 3), (0, 4), (0, 5), (0, 6), (0, 7), (0, 8), (0, 9)] ++ P) hX (hin rfl) ffX10_19 (dk DX10_init 11 rfl) (by decide) rfl (by decide) rfl (by decide) (nin_P (A := [(0, 2), (0, 3), (0, 4), (0, 5), (0, 6), (0, 7), (0, 8), (0, 9)]) (by decide) hP) ?_
  show WP _ _ _ 26 [_] [] (TT 49 f g ([(0, 2), (0, 3), (0, 4), (0, 5), (0, 6), (0, 7), (0, 8), (0, 9)] ++ P))
  refine wp_aload_n hX (dk DX10_init 12 rfl) rfl ?_
  refine t_new hX cfX3 klX10_23 ciX3 (dk DX10_init 13 rfl) (by decide) (by decide) (by decide) (old_c (old_r (by decide)) old_0) (lold_c (old_r (by decide)) lold_0) rfl rfl (hz.up (by decide)) ord49 (lt_P (A := [(0, 2), (0, 3), (0, 4), (0, 5), (0, 6), (0, 7), (0, 8), (0, 9)]) (by decide) hP (by decide)) ?_
  show WP _ _ _ 30 [_] [_, _] (TT 50 f g ([(49, 0), (49, 1), (49, 2), (0, 2), (0, 3), (0, 4), (0, 5), (0, 6), (0, 7), (0, 8), (0, 9)] ++ P))
  refine wp_dup hX (dk DX10_init 14 rfl) rfl ?_
  refine t_call (As := []) lkX10_25 hX (dk DX10_init 15 rfl) rfl (by decide) (by decide) (by decide) (i_X3 (d + 1) f g ([(0, 2), (0, 3), (0, 4), (0, 5), (0, 6), (0, 7), (0, 8), (0, 9)] ++ P) (lt_P (A := [(0, 2), (0, 3), (0, 4), (0, 5), (0, 6), (0, 7), (0, 8), (0, 9)]) (by decide) hP (by decide)) (hz.up (by decide))) (old_c (old_r (by decide)) (old_c (old_r (by decide)) old_0)) (lold_c (old_r (by decide)) lold_0) ?_
  show WP _ _ _ 34 [_] [_, _] (TT 53 f g ([(0, 2), (0, 3), (0, 4), (0, 5), (0, 6), (0, 7), (0, 8), (0, 9)] ++ P))
  refine t_putF (A := []) (B := [(0, 3), (0, 4), (0, 5), (0, 6), (0, 7), (0, 8), (0, 9)] ++ P) hX (hin rfl) ffX10_26 (dk DX10_init 16 rfl) (by decide) rfl (by decide) rfl (by decide) (nin_P (A := [(0, 3), (0, 4), (0, 5), (0, 6), (0, 7), (0, 8), (0, 9)]) (by decide) hP) ?_
  show WP _ _ _ 37 [_] [] (TT 53 f g ([(0, 3), (0, 4), (0, 5), (0, 6), (0, 7), (0, 8), (0, 9)] ++ P))
  refine wp_aload_n hX (dk DX10_init 17 rfl) rfl ?_
  refine t_new hX cfX2 klX10_30 ciX2 (dk DX10_init 18 rfl) (by decide) (by decide) (by decide) (old_c (old_r (by decide)) old_0) (lold_c (old_r (by decide)) lold_0) rfl rfl (hz.up (by decide)) ord53 (lt_P (A := [(0, 3), (0, 4), (0, 5), (0, 6), (0, 7), (0, 8), (0, 9)]) (by decide) hP (by decide)) ?_
  show WP _ _ _ 41 [_] [_, _] (TT 54 f g ([(53, 2), (53, 3), (53, 4), (53, 5), (53, 0), (53, 1), (0, 3), (0, 4), (0, 5), (0, 6), (0, 7), (0, 8), (0, 9)] ++ P))
  refine wp_dup hX (dk DX10_init 19 rfl) rfl ?_
  refine wp_aload_n hX (dk DX10_init 20 rfl) rfl ?_
  refine t_getr (x := 1) hX flX10_10 (dk DX10_init 21 rfl) (by decide) rfl rfl (nin_P (A := [(53, 2), (53, 3), (53, 4), (53, 5), (53, 0), (53, 1), (0, 3), (0, 4), (0, 5), (0, 6), (0, 7), (0, 8), (0, 9)]) (by decide) hP) (by decide) ?_
  refine wp_aload_n hX (dk DX10_init 22 rfl) rfl ?_
  refine t_getr (x := 49) hX flX10_26 (dk DX10_init 23 rfl) (by decide) rfl rfl (nin_P (A := [(53, 2), (53, 3), (53, 4), (53, 5), (53, 0), (53, 1), (0, 3), (0, 4), (0, 5), (0, 6), (0, 7), (0, 8), (0, 9)]) (by decide) hP) (by decide) ?_
  refine t_call (As := [.ref 1, .ref 49]) lkX10_32 hX (dk DX10_init 24 rfl) rfl (by decide) (by decide) (by decide) (i_X2 (d + 1) f g ([(0, 3), (0, 4), (0, 5), (0, 6), (0, 7), (0, 8), (0, 9)] ++ P) (lt_P (A := [(0, 3), (0, 4), (0, 5), (0, 6), (0, 7), (0, 8), (0, 9)]) (by decide) hP (by decide)) (hz.up (by decide))) (old_c (old_r (by decide)) (old_c (old_r (by decide)) old_0)) (lold_c (old_r (by decide)) lold_0) ?_
  show WP _ _ _ 53 [_] [_, _] (TT 58 f g ([(0, 3), (0, 4), (0, 5), (0, 6), (0, 7), (0, 8), (0, 9)] ++ P))
  refine t_putF (A := []) (B := [(0, 4), (0, 5), (0, 6), (0, 7), (0, 8), (0, 9)] ++ P) hX (hin rfl) ffX10_35 (dk DX10_init 25 rfl) (by decide) rfl (by decide) rfl (by decide) (nin_P (A := [(0, 4), (0, 5), (0, 6), (0, 7), (0, 8), (0, 9)]) (by decide) hP) ?_
  show WP _ _ _ 56 [_] [] (TT 58 f g ([(0, 4), (0, 5), (0, 6), (0, 7), (0, 8), (0, 9)] ++ P))
  refine wp_aload_n hX (dk DX10_init 26 rfl) rfl ?_
  refine t_new hX cfX8 klX10_39 ciX8 (dk DX10_init 27 rfl) (by decide) (by decide) (by decide) (old_c (old_r (by decide)) old_0) (lold_c (old_r (by decide)) lold_0) rfl rfl (hz.up (by decide)) ord58 (lt_P (A := [(0, 4), (0, 5), (0, 6), (0, 7), (0, 8), (0, 9)]) (by decide) hP (by decide)) ?_
  show WP _ _ _ 60 [_] [_, _] (TT 59 f g ([(58, 1), (58, 2), (58, 0), (0, 4), (0, 5), (0, 6), (0, 7), (0, 8), (0, 9)] ++ P))
  refine wp_dup hX (dk DX10_init 28 rfl) rfl ?_
  refine wp_aload_n hX (dk DX10_init 29 rfl) rfl ?_
  refine t_getr (x := 1) hX flX10_10 (dk DX10_init 30 rfl) (by decide) rfl rfl (nin_P (A := [(58, 1), (58, 2), (58, 0), (0, 4), (0, 5), (0, 6), (0, 7), (0, 8), (0, 9)]) (by decide) hP) (by decide) ?_
  refine t_call (As := [.ref 1]) lkX10_41 hX (dk DX10_init 31 rfl) rfl (by decide) (by decide) (by decide) (i_X8 (d + 1) f g ([(0, 4), (0, 5), (0, 6), (0, 7), (0, 8), (0, 9)] ++ P) (lt_P (A := [(0, 4), (0, 5), (0, 6), (0, 7), (0, 8), (0, 9)]) (by decide) hP (by decide)) (hz.up (by decide))) (old_c (old_r (by decide)) (old_c (old_r (by decide)) old_0)) (lold_c (old_r (by decide)) lold_0) ?_
  show WP _ _ _ 68 [_] [_, _] (TT 61 f g ([(0, 4), (0, 5), (0, 6), (0, 7), (0, 8), (0, 9)] ++ P))
  refine t_putF (A := []) (B := [(0, 5), (0, 6), (0, 7), (0, 8), (0, 9)] ++ P) hX (hin rfl) ffX10_44 (dk DX10_init 32 rfl) (by decide) rfl (by decide) rfl (by decide) (nin_P (A := [(0, 5), (0, 6), (0, 7), (0, 8), (0, 9)]) (by decide) hP) ?_
  show WP _ _ _ 71 [_] [] (TT 61 f g ([(0, 5), (0, 6), (0, 7), (0, 8), (0, 9)] ++ P))
  refine wp_aload_n hX (dk DX10_init 33 rfl) rfl ?_
  refine t_new hX cfX9 klX10_48 ciX9 (dk DX10_init 34 rfl) (by decide) (by decide) (by decide) (old_c (old_r (by decide)) old_0) (lold_c (old_r (by decide)) lold_0) rfl rfl (hz.up (by decide)) ord61 (lt_P (A := [(0, 5), (0, 6), (0, 7), (0, 8), (0, 9)]) (by decide) hP (by decide)) ?_
  show WP _ _ _ 75 [_] [_, _] (TT 62 f g ([(61, 0), (61, 1), (61, 2), (61, 3), (61, 4), (61, 5), (0, 5), (0, 6), (0, 7), (0, 8), (0, 9)] ++ P))
  refine wp_dup hX (dk DX10_init 35 rfl) rfl ?_
  refine t_call (As := []) lkX10_50 hX (dk DX10_init 36 rfl) rfl (by decide) (by decide) (by decide) (i_X9 (d + 1) f g ([(0, 5), (0, 6), (0, 7), (0, 8), (0, 9)] ++ P) (lt_P (A := [(0, 5), (0, 6), (0, 7), (0, 8), (0, 9)]) (by decide) hP (by decide)) (hz.up (by decide))) (old_c (old_r (by decide)) (old_c (old_r (by decide)) old_0)) (lold_c (old_r (by decide)) lold_0) ?_
  show WP _ _ _ 79 [_] [_, _] (TT 68 f g ([(0, 5), (0, 6), (0, 7), (0, 8), (0, 9)] ++ P))
  refine t_putF (A := []) (B := [(0, 6), (0, 7), (0, 8), (0, 9)] ++ P) hX (hin rfl) ffX10_51 (dk DX10_init 37 rfl) (by decide) rfl (by decide) rfl (by decide) (nin_P (A := [(0, 6), (0, 7), (0, 8), (0, 9)]) (by decide) hP) ?_
  show WP _ _ _ 82 [_] [] (TT 68 f g ([(0, 6), (0, 7), (0, 8), (0, 9)] ++ P))
  refine wp_aload_n hX (dk DX10_init 38 rfl) rfl ?_
  refine t_new hX cfX0 klX10_55 ciX0 (dk DX10_init 39 rfl) (by decide) (by decide) (by decide) (old_c (old_r (by decide)) old_0) (lold_c (old_r (by decide)) lold_0) rfl rfl (hz.up (by decide)) ord68 (lt_P (A := [(0, 6), (0, 7), (0, 8), (0, 9)]) (by decide) hP (by decide)) ?_
  show WP _ _ _ 86 [_] [_, _] (TT 69 f g ([(68, 0), (0, 6), (0, 7), (0, 8), (0, 9)] ++ P))
  refine wp_dup hX (dk DX10_init 40 rfl) rfl ?_
  refine t_call (As := []) lkX10_57 hX (dk DX10_init 41 rfl) rfl (by decide) (by decide) (by decide) (i_X0 (d + 1) f g ([(0, 6), (0, 7), (0, 8), (0, 9)] ++ P) (lt_P (A := [(0, 6), (0, 7), (0, 8), (0, 9)]) (by decide) hP (by decide)) (hz.up (by decide))) (old_c (old_r (by decide)) (old_c (old_r (by decide)) old_0)) (lold_c (old_r (by decide)) lold_0) ?_
  show WP _ _ _ 90 [_] [_, _] (TT 70 f g ([(0, 6), (0, 7), (0, 8), (0, 9)] ++ P))
  refine t_putF (A := []) (B := [(0, 7), (0, 8), (0, 9)] ++ P) hX (hin rfl) ffX10_58 (dk DX10_init 42 rfl) (by decide) rfl (by decide) rfl (by decide) (nin_P (A := [(0, 7), (0, 8), (0, 9)]) (by decide) hP) ?_
  show WP _ _ _ 93 [_] [] (TT 70 f g ([(0, 7), (0, 8), (0, 9)] ++ P))
  refine wp_aload_n hX (dk DX10_init 43 rfl) rfl ?_
  refine t_new hX cfX6 klX10_62 ciX6 (dk DX10_init 44 rfl) (by decide) (by decide) (by decide) (old_c (old_r (by decide)) old_0) (lold_c (old_r (by decide)) lold_0) rfl rfl (hz.up (by decide)) ord70 (lt_P (A := [(0, 7), (0, 8), (0, 9)]) (by decide) hP (by decide)) ?_
  show WP _ _ _ 97 [_] [_, _] (TT 71 f g ([(70, 0), (70, 1), (0, 7), (0, 8), (0, 9)] ++ P))
  refine wp_dup hX (dk DX10_init 45 rfl) rfl ?_
  refine t_call (As := []) lkX10_64 hX (dk DX10_init 46 rfl) rfl (by decide) (by decide) (by decide) (i_X6 (d + 1) f g ([(0, 7), (0, 8), (0, 9)] ++ P) (lt_P (A := [(0, 7), (0, 8), (0, 9)]) (by decide) hP (by decide)) (hz.up (by decide))) (old_c (old_r (by decide)) (old_c (old_r (by decide)) old_0)) (lold_c (old_r (by decide)) lold_0) ?_
  show WP _ _ _ 101 [_] [_, _] (TT 73 f g ([(0, 7), (0, 8), (0, 9)] ++ P))
  refine t_putF (A := []) (B := [(0, 8), (0, 9)] ++ P) hX (hin rfl) ffX10_65 (dk DX10_init 47 rfl) (by decide) rfl (by decide) rfl (by decide) (nin_P (A := [(0, 8), (0, 9)]) (by decide) hP) ?_
  show WP _ _ _ 104 [_] [] (TT 73 f g ([(0, 8), (0, 9)] ++ P))
  refine wp_aload_n hX (dk DX10_init 48 rfl) rfl ?_
  refine t_new hX cfX4 klX10_69 ciX4 (dk DX10_init 49 rfl) (by decide) (by decide) (by decide) (old_c (old_r (by decide)) old_0) (lold_c (old_r (by decide)) lold_0) rfl rfl (hz.up (by decide)) ord73 (lt_P (A := [(0, 8), (0, 9)]) (by decide) hP (by decide)) ?_
  show WP _ _ _ 108 [_] [_, _] (TT 74 f g ([(73, 0), (73, 1), (73, 2), (0, 8), (0, 9)] ++ P))
  refine wp_dup hX (dk DX10_init 50 rfl) rfl ?_
  refine t_call (As := []) lkX10_71 hX (dk DX10_init 51 rfl) rfl (by decide) (by decide) (by decide) (i_X4 (d + 1) f g ([(0, 8), (0, 9)] ++ P) (lt_P (A := [(0, 8), (0, 9)]) (by decide) hP (by decide)) (hz.up (by decide))) (old_c (old_r (by decide)) (old_c (old_r (by decide)) old_0)) (lold_c (old_r (by decide)) lold_0) ?_
  show WP _ _ _ 112 [_] [_, _] (TT 77 (shF f) g ([(0, 8), (0, 9)] ++ P))
  refine t_putF (A := []) (B := [(0, 9)] ++ P) hX (hin rfl) ffX10_72 (dk DX10_init 52 rfl) (by decide) rfl (by decide) rfl (by decide) (nin_P (A := [(0, 9)]) (by decide) hP) ?_
  show WP _ _ _ 115 [_] [] (TT 77 (shF f) g ([(0, 9)] ++ P))
  refine wp_aload_n hX (dk DX10_init 53 rfl) rfl ?_
  refine t_new hX cfX1 klX10_76 ciX1 (dk DX10_init 54 rfl) (by decide) (by decide) (by decide) (old_c (old_r (by decide)) old_0) (lold_c (old_r (by decide)) lold_0) rfl rfl ((shF_z hz (by decide)).up (by decide)) ord77 (lt_P (A := [(0, 9)]) (by decide) hP (by decide)) ?_
  show WP _ _ _ 119 [_] [_, _] (TT 78 (shF f) g ([(77, 0), (77, 1), (77, 2), (0, 9)] ++ P))
  refine wp_dup hX (dk DX10_init 55 rfl) rfl ?_
  refine t_call (As := []) lkX10_78 hX (dk DX10_init 56 rfl) rfl (by decide) (by decide) (by decide) (i_F77 (d + 1) (shF f) g ([(0, 9)] ++ P) (lt_P (A := [(0, 9)]) (by decide) hP (by decide)) ((shF_z hz (by decide)).up (by decide))) (old_c (old_r (by decide)) (old_c (old_r (by decide)) old_0)) (lold_c (old_r (by decide)) lold_0) ?_
  show WP _ _ _ 123 [_] [_, _] (TT 81 (shF f) g ([(0, 9)] ++ P))
  refine t_putF (A := []) (B := [] ++ P) hX (hin rfl) ffX10_79 (dk DX10_init 57 rfl) (by decide) rfl (by decide) rfl (by decide) (nin_P (A := []) (by decide) hP) ?_
  show WP _ _ _ 126 [_] [] (TT 81 (shF f) g ([] ++ P))
  exact wp_return hX hR (dk DX10_init 58 rfl) (by decide) (by decide) ⟨rfl, rfl⟩
/-- no shelf holds anything -/
def modHoldF (f : Nat → Nat → Int32) : Nat → Nat → Int32 := (u2 (u2 (u2 (u2 (u2 (u2 f 106 0 (-1)) 106 1 (-1)) 106 2 (-1)) 106 3 (-1)) 106 4 (-1)) 106 5 (-1))
theorem i_X11 (d : Nat) (f : Nat → Nat → Int32) (g : Nat → Nat → Int64) (P : List (Nat × Nat)) (hP : ∀ q ∈ P, q.1 < 81) (hz : zf 82 f g) : CT (d + 1) 33 2029 iX11_init [.ref 81] (TT 82 f g ([(81, 1), (81, 2), (81, 3), (81, 4), (81, 6), (81, 7), (81, 10), (81, 13), (81, 14), (81, 15), (81, 16), (81, 21), (81, 22), (81, 23), (81, 24), (81, 25), (81, 26), (81, 27), (81, 31), (81, 32), (81, 33), (81, 36), (81, 38), (81, 40), (81, 41), (81, 42), (81, 43), (81, 44), (81, 45), (81, 46), (81, 47), (81, 48), (81, 49)] ++ P)) (QR none (TT 115 (modHoldF f) g P)) := by
  refine CT.of rfl (Nat.le_of_ble_eq_true rfl) (fun X hX hR hN hin => ?_)
  have hX : Good X RX11 cX11_init (d + 1) 33 2029 := hX
  have hN : x_nl X = 2 := hN
  show WP X 0 0 0 [_, _] [] _
  refine wp_aload_n hX (dk DX11_init 0 rfl) rfl ?_
  refine wp_obj hX lkX11_3 kin_obj kcd_obj (dk DX11_init 1 rfl) (by decide) ?_
  refine wp_aload_n hX (dk DX11_init 2 rfl) rfl ?_
  refine wp_bipush (v := 10) hX (dk DX11_init 3 rfl) (by decide) ?_
  refine t_newi (N := 10) hX (dk DX11_init 4 rfl) (by decide) (by decide) (by decide) (by decide) (by decide) (by decide) (old_c (old_r (by decide)) old_0) (lold_c (old_r (by decide)) (lold_n lold_0)) rfl rfl (hz.up (by decide)) ord82 (lt_P (A := [(81, 1), (81, 2), (81, 3), (81, 4), (81, 6), (81, 7), (81, 10), (81, 13), (81, 14), (81, 15), (81, 16), (81, 21), (81, 22), (81, 23), (81, 24), (81, 25), (81, 26), (81, 27), (81, 31), (81, 32), (81, 33), (81, 36), (81, 38), (81, 40), (81, 41), (81, 42), (81, 43), (81, 44), (81, 45), (81, 46), (81, 47), (81, 48), (81, 49)]) (by decide) hP (by decide)) ?_
  show WP _ _ _ 9 [_, _] [_, _] (TT 83 f g ([(81, 1), (81, 2), (81, 3), (81, 4), (81, 6), (81, 7), (81, 10), (81, 13), (81, 14), (81, 15), (81, 16), (81, 21), (81, 22), (81, 23), (81, 24), (81, 25), (81, 26), (81, 27), (81, 31), (81, 32), (81, 33), (81, 36), (81, 38), (81, 40), (81, 41), (81, 42), (81, 43), (81, 44), (81, 45), (81, 46), (81, 47), (81, 48), (81, 49)] ++ P))
  refine t_putF (A := []) (B := [(81, 2), (81, 3), (81, 4), (81, 6), (81, 7), (81, 10), (81, 13), (81, 14), (81, 15), (81, 16), (81, 21), (81, 22), (81, 23), (81, 24), (81, 25), (81, 26), (81, 27), (81, 31), (81, 32), (81, 33), (81, 36), (81, 38), (81, 40), (81, 41), (81, 42), (81, 43), (81, 44), (81, 45), (81, 46), (81, 47), (81, 48), (81, 49)] ++ P) hX (hin rfl) ffX11_9 (dk DX11_init 5 rfl) (by decide) rfl (by decide) rfl (by decide) (nin_P (A := [(81, 2), (81, 3), (81, 4), (81, 6), (81, 7), (81, 10), (81, 13), (81, 14), (81, 15), (81, 16), (81, 21), (81, 22), (81, 23), (81, 24), (81, 25), (81, 26), (81, 27), (81, 31), (81, 32), (81, 33), (81, 36), (81, 38), (81, 40), (81, 41), (81, 42), (81, 43), (81, 44), (81, 45), (81, 46), (81, 47), (81, 48), (81, 49)]) (by decide) hP) ?_
  show WP _ _ _ 12 [_, _] [] (TT 83 f g ([(81, 2), (81, 3), (81, 4), (81, 6), (81, 7), (81, 10), (81, 13), (81, 14), (81, 15), (81, 16), (81, 21), (81, 22), (81, 23), (81, 24), (81, 25), (81, 26), (81, 27), (81, 31), (81, 32), (81, 33), (81, 36), (81, 38), (81, 40), (81, 41), (81, 42), (81, 43), (81, 44), (81, 45), (81, 46), (81, 47), (81, 48), (81, 49)] ++ P))
  refine wp_aload_n hX (dk DX11_init 6 rfl) rfl ?_
  refine wp_bipush (v := 10) hX (dk DX11_init 7 rfl) (by decide) ?_
  refine t_newi (N := 10) hX (dk DX11_init 8 rfl) (by decide) (by decide) (by decide) (by decide) (by decide) (by decide) (old_c (old_r (by decide)) old_0) (lold_c (old_r (by decide)) (lold_n lold_0)) rfl rfl (hz.up (by decide)) ord83 (lt_P (A := [(81, 2), (81, 3), (81, 4), (81, 6), (81, 7), (81, 10), (81, 13), (81, 14), (81, 15), (81, 16), (81, 21), (81, 22), (81, 23), (81, 24), (81, 25), (81, 26), (81, 27), (81, 31), (81, 32), (81, 33), (81, 36), (81, 38), (81, 40), (81, 41), (81, 42), (81, 43), (81, 44), (81, 45), (81, 46), (81, 47), (81, 48), (81, 49)]) (by decide) hP (by decide)) ?_
  show WP _ _ _ 17 [_, _] [_, _] (TT 84 f g ([(81, 2), (81, 3), (81, 4), (81, 6), (81, 7), (81, 10), (81, 13), (81, 14), (81, 15), (81, 16), (81, 21), (81, 22), (81, 23), (81, 24), (81, 25), (81, 26), (81, 27), (81, 31), (81, 32), (81, 33), (81, 36), (81, 38), (81, 40), (81, 41), (81, 42), (81, 43), (81, 44), (81, 45), (81, 46), (81, 47), (81, 48), (81, 49)] ++ P))
  refine t_putF (A := []) (B := [(81, 3), (81, 4), (81, 6), (81, 7), (81, 10), (81, 13), (81, 14), (81, 15), (81, 16), (81, 21), (81, 22), (81, 23), (81, 24), (81, 25), (81, 26), (81, 27), (81, 31), (81, 32), (81, 33), (81, 36), (81, 38), (81, 40), (81, 41), (81, 42), (81, 43), (81, 44), (81, 45), (81, 46), (81, 47), (81, 48), (81, 49)] ++ P) hX (hin rfl) ffX11_15 (dk DX11_init 9 rfl) (by decide) rfl (by decide) rfl (by decide) (nin_P (A := [(81, 3), (81, 4), (81, 6), (81, 7), (81, 10), (81, 13), (81, 14), (81, 15), (81, 16), (81, 21), (81, 22), (81, 23), (81, 24), (81, 25), (81, 26), (81, 27), (81, 31), (81, 32), (81, 33), (81, 36), (81, 38), (81, 40), (81, 41), (81, 42), (81, 43), (81, 44), (81, 45), (81, 46), (81, 47), (81, 48), (81, 49)]) (by decide) hP) ?_
  show WP _ _ _ 20 [_, _] [] (TT 84 f g ([(81, 3), (81, 4), (81, 6), (81, 7), (81, 10), (81, 13), (81, 14), (81, 15), (81, 16), (81, 21), (81, 22), (81, 23), (81, 24), (81, 25), (81, 26), (81, 27), (81, 31), (81, 32), (81, 33), (81, 36), (81, 38), (81, 40), (81, 41), (81, 42), (81, 43), (81, 44), (81, 45), (81, 46), (81, 47), (81, 48), (81, 49)] ++ P))
  refine wp_aload_n hX (dk DX11_init 10 rfl) rfl ?_
  refine wp_bipush (v := 10) hX (dk DX11_init 11 rfl) (by decide) ?_
  refine t_newi (N := 10) hX (dk DX11_init 12 rfl) (by decide) (by decide) (by decide) (by decide) (by decide) (by decide) (old_c (old_r (by decide)) old_0) (lold_c (old_r (by decide)) (lold_n lold_0)) rfl rfl (hz.up (by decide)) ord84 (lt_P (A := [(81, 3), (81, 4), (81, 6), (81, 7), (81, 10), (81, 13), (81, 14), (81, 15), (81, 16), (81, 21), (81, 22), (81, 23), (81, 24), (81, 25), (81, 26), (81, 27), (81, 31), (81, 32), (81, 33), (81, 36), (81, 38), (81, 40), (81, 41), (81, 42), (81, 43), (81, 44), (81, 45), (81, 46), (81, 47), (81, 48), (81, 49)]) (by decide) hP (by decide)) ?_
  show WP _ _ _ 25 [_, _] [_, _] (TT 85 f g ([(81, 3), (81, 4), (81, 6), (81, 7), (81, 10), (81, 13), (81, 14), (81, 15), (81, 16), (81, 21), (81, 22), (81, 23), (81, 24), (81, 25), (81, 26), (81, 27), (81, 31), (81, 32), (81, 33), (81, 36), (81, 38), (81, 40), (81, 41), (81, 42), (81, 43), (81, 44), (81, 45), (81, 46), (81, 47), (81, 48), (81, 49)] ++ P))
  refine t_putF (A := []) (B := [(81, 4), (81, 6), (81, 7), (81, 10), (81, 13), (81, 14), (81, 15), (81, 16), (81, 21), (81, 22), (81, 23), (81, 24), (81, 25), (81, 26), (81, 27), (81, 31), (81, 32), (81, 33), (81, 36), (81, 38), (81, 40), (81, 41), (81, 42), (81, 43), (81, 44), (81, 45), (81, 46), (81, 47), (81, 48), (81, 49)] ++ P) hX (hin rfl) ffX11_18 (dk DX11_init 13 rfl) (by decide) rfl (by decide) rfl (by decide) (nin_P (A := [(81, 4), (81, 6), (81, 7), (81, 10), (81, 13), (81, 14), (81, 15), (81, 16), (81, 21), (81, 22), (81, 23), (81, 24), (81, 25), (81, 26), (81, 27), (81, 31), (81, 32), (81, 33), (81, 36), (81, 38), (81, 40), (81, 41), (81, 42), (81, 43), (81, 44), (81, 45), (81, 46), (81, 47), (81, 48), (81, 49)]) (by decide) hP) ?_
  show WP _ _ _ 28 [_, _] [] (TT 85 f g ([(81, 4), (81, 6), (81, 7), (81, 10), (81, 13), (81, 14), (81, 15), (81, 16), (81, 21), (81, 22), (81, 23), (81, 24), (81, 25), (81, 26), (81, 27), (81, 31), (81, 32), (81, 33), (81, 36), (81, 38), (81, 40), (81, 41), (81, 42), (81, 43), (81, 44), (81, 45), (81, 46), (81, 47), (81, 48), (81, 49)] ++ P))
  refine wp_aload_n hX (dk DX11_init 14 rfl) rfl ?_
  refine wp_bipush (v := 10) hX (dk DX11_init 15 rfl) (by decide) ?_
  refine t_newi (N := 10) hX (dk DX11_init 16 rfl) (by decide) (by decide) (by decide) (by decide) (by decide) (by decide) (old_c (old_r (by decide)) old_0) (lold_c (old_r (by decide)) (lold_n lold_0)) rfl rfl (hz.up (by decide)) ord85 (lt_P (A := [(81, 4), (81, 6), (81, 7), (81, 10), (81, 13), (81, 14), (81, 15), (81, 16), (81, 21), (81, 22), (81, 23), (81, 24), (81, 25), (81, 26), (81, 27), (81, 31), (81, 32), (81, 33), (81, 36), (81, 38), (81, 40), (81, 41), (81, 42), (81, 43), (81, 44), (81, 45), (81, 46), (81, 47), (81, 48), (81, 49)]) (by decide) hP (by decide)) ?_
  show WP _ _ _ 33 [_, _] [_, _] (TT 86 f g ([(81, 4), (81, 6), (81, 7), (81, 10), (81, 13), (81, 14), (81, 15), (81, 16), (81, 21), (81, 22), (81, 23), (81, 24), (81, 25), (81, 26), (81, 27), (81, 31), (81, 32), (81, 33), (81, 36), (81, 38), (81, 40), (81, 41), (81, 42), (81, 43), (81, 44), (81, 45), (81, 46), (81, 47), (81, 48), (81, 49)] ++ P))
  refine t_putF (A := []) (B := [(81, 6), (81, 7), (81, 10), (81, 13), (81, 14), (81, 15), (81, 16), (81, 21), (81, 22), (81, 23), (81, 24), (81, 25), (81, 26), (81, 27), (81, 31), (81, 32), (81, 33), (81, 36), (81, 38), (81, 40), (81, 41), (81, 42), (81, 43), (81, 44), (81, 45), (81, 46), (81, 47), (81, 48), (81, 49)] ++ P) hX (hin rfl) ffX11_21 (dk DX11_init 17 rfl) (by decide) rfl (by decide) rfl (by decide) (nin_P (A := [(81, 6), (81, 7), (81, 10), (81, 13), (81, 14), (81, 15), (81, 16), (81, 21), (81, 22), (81, 23), (81, 24), (81, 25), (81, 26), (81, 27), (81, 31), (81, 32), (81, 33), (81, 36), (81, 38), (81, 40), (81, 41), (81, 42), (81, 43), (81, 44), (81, 45), (81, 46), (81, 47), (81, 48), (81, 49)]) (by decide) hP) ?_
  show WP _ _ _ 36 [_, _] [] (TT 86 f g ([(81, 6), (81, 7), (81, 10), (81, 13), (81, 14), (81, 15), (81, 16), (81, 21), (81, 22), (81, 23), (81, 24), (81, 25), (81, 26), (81, 27), (81, 31), (81, 32), (81, 33), (81, 36), (81, 38), (81, 40), (81, 41), (81, 42), (81, 43), (81, 44), (81, 45), (81, 46), (81, 47), (81, 48), (81, 49)] ++ P))
  refine wp_aload_n hX (dk DX11_init 18 rfl) rfl ?_
  refine wp_bipush (v := 6) hX (dk DX11_init 19 rfl) (by decide) ?_
  refine t_newi (N := 6) hX (dk DX11_init 20 rfl) (by decide) (by decide) (by decide) (by decide) (by decide) (by decide) (old_c (old_r (by decide)) old_0) (lold_c (old_r (by decide)) (lold_n lold_0)) rfl rfl (hz.up (by decide)) ord86 (lt_P (A := [(81, 6), (81, 7), (81, 10), (81, 13), (81, 14), (81, 15), (81, 16), (81, 21), (81, 22), (81, 23), (81, 24), (81, 25), (81, 26), (81, 27), (81, 31), (81, 32), (81, 33), (81, 36), (81, 38), (81, 40), (81, 41), (81, 42), (81, 43), (81, 44), (81, 45), (81, 46), (81, 47), (81, 48), (81, 49)]) (by decide) hP (by decide)) ?_
  show WP _ _ _ 41 [_, _] [_, _] (TT 87 f g ([(81, 6), (81, 7), (81, 10), (81, 13), (81, 14), (81, 15), (81, 16), (81, 21), (81, 22), (81, 23), (81, 24), (81, 25), (81, 26), (81, 27), (81, 31), (81, 32), (81, 33), (81, 36), (81, 38), (81, 40), (81, 41), (81, 42), (81, 43), (81, 44), (81, 45), (81, 46), (81, 47), (81, 48), (81, 49)] ++ P))
  refine t_putF (A := []) (B := [(81, 7), (81, 10), (81, 13), (81, 14), (81, 15), (81, 16), (81, 21), (81, 22), (81, 23), (81, 24), (81, 25), (81, 26), (81, 27), (81, 31), (81, 32), (81, 33), (81, 36), (81, 38), (81, 40), (81, 41), (81, 42), (81, 43), (81, 44), (81, 45), (81, 46), (81, 47), (81, 48), (81, 49)] ++ P) hX (hin rfl) ffX11_24 (dk DX11_init 21 rfl) (by decide) rfl (by decide) rfl (by decide) (nin_P (A := [(81, 7), (81, 10), (81, 13), (81, 14), (81, 15), (81, 16), (81, 21), (81, 22), (81, 23), (81, 24), (81, 25), (81, 26), (81, 27), (81, 31), (81, 32), (81, 33), (81, 36), (81, 38), (81, 40), (81, 41), (81, 42), (81, 43), (81, 44), (81, 45), (81, 46), (81, 47), (81, 48), (81, 49)]) (by decide) hP) ?_
  show WP _ _ _ 44 [_, _] [] (TT 87 f g ([(81, 7), (81, 10), (81, 13), (81, 14), (81, 15), (81, 16), (81, 21), (81, 22), (81, 23), (81, 24), (81, 25), (81, 26), (81, 27), (81, 31), (81, 32), (81, 33), (81, 36), (81, 38), (81, 40), (81, 41), (81, 42), (81, 43), (81, 44), (81, 45), (81, 46), (81, 47), (81, 48), (81, 49)] ++ P))
  refine wp_aload_n hX (dk DX11_init 22 rfl) rfl ?_
  refine wp_bipush (v := 6) hX (dk DX11_init 23 rfl) (by decide) ?_
  refine t_newi (N := 6) hX (dk DX11_init 24 rfl) (by decide) (by decide) (by decide) (by decide) (by decide) (by decide) (old_c (old_r (by decide)) old_0) (lold_c (old_r (by decide)) (lold_n lold_0)) rfl rfl (hz.up (by decide)) ord87 (lt_P (A := [(81, 7), (81, 10), (81, 13), (81, 14), (81, 15), (81, 16), (81, 21), (81, 22), (81, 23), (81, 24), (81, 25), (81, 26), (81, 27), (81, 31), (81, 32), (81, 33), (81, 36), (81, 38), (81, 40), (81, 41), (81, 42), (81, 43), (81, 44), (81, 45), (81, 46), (81, 47), (81, 48), (81, 49)]) (by decide) hP (by decide)) ?_
  show WP _ _ _ 49 [_, _] [_, _] (TT 88 f g ([(81, 7), (81, 10), (81, 13), (81, 14), (81, 15), (81, 16), (81, 21), (81, 22), (81, 23), (81, 24), (81, 25), (81, 26), (81, 27), (81, 31), (81, 32), (81, 33), (81, 36), (81, 38), (81, 40), (81, 41), (81, 42), (81, 43), (81, 44), (81, 45), (81, 46), (81, 47), (81, 48), (81, 49)] ++ P))
  refine t_putF (A := []) (B := [(81, 10), (81, 13), (81, 14), (81, 15), (81, 16), (81, 21), (81, 22), (81, 23), (81, 24), (81, 25), (81, 26), (81, 27), (81, 31), (81, 32), (81, 33), (81, 36), (81, 38), (81, 40), (81, 41), (81, 42), (81, 43), (81, 44), (81, 45), (81, 46), (81, 47), (81, 48), (81, 49)] ++ P) hX (hin rfl) ffX11_27 (dk DX11_init 25 rfl) (by decide) rfl (by decide) rfl (by decide) (nin_P (A := [(81, 10), (81, 13), (81, 14), (81, 15), (81, 16), (81, 21), (81, 22), (81, 23), (81, 24), (81, 25), (81, 26), (81, 27), (81, 31), (81, 32), (81, 33), (81, 36), (81, 38), (81, 40), (81, 41), (81, 42), (81, 43), (81, 44), (81, 45), (81, 46), (81, 47), (81, 48), (81, 49)]) (by decide) hP) ?_
  show WP _ _ _ 52 [_, _] [] (TT 88 f g ([(81, 10), (81, 13), (81, 14), (81, 15), (81, 16), (81, 21), (81, 22), (81, 23), (81, 24), (81, 25), (81, 26), (81, 27), (81, 31), (81, 32), (81, 33), (81, 36), (81, 38), (81, 40), (81, 41), (81, 42), (81, 43), (81, 44), (81, 45), (81, 46), (81, 47), (81, 48), (81, 49)] ++ P))
  refine wp_aload_n hX (dk DX11_init 26 rfl) rfl ?_
  refine wp_bipush (v := 120) hX (dk DX11_init 27 rfl) (by decide) ?_
  refine t_newi (N := 120) hX (dk DX11_init 28 rfl) (by decide) (by decide) (by decide) (by decide) (by decide) (by decide) (old_c (old_r (by decide)) old_0) (lold_c (old_r (by decide)) (lold_n lold_0)) rfl rfl (hz.up (by decide)) ord88 (lt_P (A := [(81, 10), (81, 13), (81, 14), (81, 15), (81, 16), (81, 21), (81, 22), (81, 23), (81, 24), (81, 25), (81, 26), (81, 27), (81, 31), (81, 32), (81, 33), (81, 36), (81, 38), (81, 40), (81, 41), (81, 42), (81, 43), (81, 44), (81, 45), (81, 46), (81, 47), (81, 48), (81, 49)]) (by decide) hP (by decide)) ?_
  show WP _ _ _ 57 [_, _] [_, _] (TT 89 f g ([(81, 10), (81, 13), (81, 14), (81, 15), (81, 16), (81, 21), (81, 22), (81, 23), (81, 24), (81, 25), (81, 26), (81, 27), (81, 31), (81, 32), (81, 33), (81, 36), (81, 38), (81, 40), (81, 41), (81, 42), (81, 43), (81, 44), (81, 45), (81, 46), (81, 47), (81, 48), (81, 49)] ++ P))
  refine t_putF (A := []) (B := [(81, 13), (81, 14), (81, 15), (81, 16), (81, 21), (81, 22), (81, 23), (81, 24), (81, 25), (81, 26), (81, 27), (81, 31), (81, 32), (81, 33), (81, 36), (81, 38), (81, 40), (81, 41), (81, 42), (81, 43), (81, 44), (81, 45), (81, 46), (81, 47), (81, 48), (81, 49)] ++ P) hX (hin rfl) ffX11_30 (dk DX11_init 29 rfl) (by decide) rfl (by decide) rfl (by decide) (nin_P (A := [(81, 13), (81, 14), (81, 15), (81, 16), (81, 21), (81, 22), (81, 23), (81, 24), (81, 25), (81, 26), (81, 27), (81, 31), (81, 32), (81, 33), (81, 36), (81, 38), (81, 40), (81, 41), (81, 42), (81, 43), (81, 44), (81, 45), (81, 46), (81, 47), (81, 48), (81, 49)]) (by decide) hP) ?_
  show WP _ _ _ 60 [_, _] [] (TT 89 f g ([(81, 13), (81, 14), (81, 15), (81, 16), (81, 21), (81, 22), (81, 23), (81, 24), (81, 25), (81, 26), (81, 27), (81, 31), (81, 32), (81, 33), (81, 36), (81, 38), (81, 40), (81, 41), (81, 42), (81, 43), (81, 44), (81, 45), (81, 46), (81, 47), (81, 48), (81, 49)] ++ P))
  refine wp_aload_n hX (dk DX11_init 30 rfl) rfl ?_
  refine wp_bipush (v := 60) hX (dk DX11_init 31 rfl) (by decide) ?_
  refine t_newi (N := 60) hX (dk DX11_init 32 rfl) (by decide) (by decide) (by decide) (by decide) (by decide) (by decide) (old_c (old_r (by decide)) old_0) (lold_c (old_r (by decide)) (lold_n lold_0)) rfl rfl (hz.up (by decide)) ord89 (lt_P (A := [(81, 13), (81, 14), (81, 15), (81, 16), (81, 21), (81, 22), (81, 23), (81, 24), (81, 25), (81, 26), (81, 27), (81, 31), (81, 32), (81, 33), (81, 36), (81, 38), (81, 40), (81, 41), (81, 42), (81, 43), (81, 44), (81, 45), (81, 46), (81, 47), (81, 48), (81, 49)]) (by decide) hP (by decide)) ?_
  show WP _ _ _ 65 [_, _] [_, _] (TT 90 f g ([(81, 13), (81, 14), (81, 15), (81, 16), (81, 21), (81, 22), (81, 23), (81, 24), (81, 25), (81, 26), (81, 27), (81, 31), (81, 32), (81, 33), (81, 36), (81, 38), (81, 40), (81, 41), (81, 42), (81, 43), (81, 44), (81, 45), (81, 46), (81, 47), (81, 48), (81, 49)] ++ P))
  refine t_putF (A := []) (B := [(81, 14), (81, 15), (81, 16), (81, 21), (81, 22), (81, 23), (81, 24), (81, 25), (81, 26), (81, 27), (81, 31), (81, 32), (81, 33), (81, 36), (81, 38), (81, 40), (81, 41), (81, 42), (81, 43), (81, 44), (81, 45), (81, 46), (81, 47), (81, 48), (81, 49)] ++ P) hX (hin rfl) ffX11_33 (dk DX11_init 33 rfl) (by decide) rfl (by decide) rfl (by decide) (nin_P (A := [(81, 14), (81, 15), (81, 16), (81, 21), (81, 22), (81, 23), (81, 24), (81, 25), (81, 26), (81, 27), (81, 31), (81, 32), (81, 33), (81, 36), (81, 38), (81, 40), (81, 41), (81, 42), (81, 43), (81, 44), (81, 45), (81, 46), (81, 47), (81, 48), (81, 49)]) (by decide) hP) ?_
  show WP _ _ _ 68 [_, _] [] (TT 90 f g ([(81, 14), (81, 15), (81, 16), (81, 21), (81, 22), (81, 23), (81, 24), (81, 25), (81, 26), (81, 27), (81, 31), (81, 32), (81, 33), (81, 36), (81, 38), (81, 40), (81, 41), (81, 42), (81, 43), (81, 44), (81, 45), (81, 46), (81, 47), (81, 48), (81, 49)] ++ P))
  refine wp_aload_n hX (dk DX11_init 34 rfl) rfl ?_
  refine wp_bipush (v := 60) hX (dk DX11_init 35 rfl) (by decide) ?_
  refine t_newi (N := 60) hX (dk DX11_init 36 rfl) (by decide) (by decide) (by decide) (by decide) (by decide) (by decide) (old_c (old_r (by decide)) old_0) (lold_c (old_r (by decide)) (lold_n lold_0)) rfl rfl (hz.up (by decide)) ord90 (lt_P (A := [(81, 14), (81, 15), (81, 16), (81, 21), (81, 22), (81, 23), (81, 24), (81, 25), (81, 26), (81, 27), (81, 31), (81, 32), (81, 33), (81, 36), (81, 38), (81, 40), (81, 41), (81, 42), (81, 43), (81, 44), (81, 45), (81, 46), (81, 47), (81, 48), (81, 49)]) (by decide) hP (by decide)) ?_
  show WP _ _ _ 73 [_, _] [_, _] (TT 91 f g ([(81, 14), (81, 15), (81, 16), (81, 21), (81, 22), (81, 23), (81, 24), (81, 25), (81, 26), (81, 27), (81, 31), (81, 32), (81, 33), (81, 36), (81, 38), (81, 40), (81, 41), (81, 42), (81, 43), (81, 44), (81, 45), (81, 46), (81, 47), (81, 48), (81, 49)] ++ P))
  refine t_putF (A := []) (B := [(81, 15), (81, 16), (81, 21), (81, 22), (81, 23), (81, 24), (81, 25), (81, 26), (81, 27), (81, 31), (81, 32), (81, 33), (81, 36), (81, 38), (81, 40), (81, 41), (81, 42), (81, 43), (81, 44), (81, 45), (81, 46), (81, 47), (81, 48), (81, 49)] ++ P) hX (hin rfl) ffX11_36 (dk DX11_init 37 rfl) (by decide) rfl (by decide) rfl (by decide) (nin_P (A := [(81, 15), (81, 16), (81, 21), (81, 22), (81, 23), (81, 24), (81, 25), (81, 26), (81, 27), (81, 31), (81, 32), (81, 33), (81, 36), (81, 38), (81, 40), (81, 41), (81, 42), (81, 43), (81, 44), (81, 45), (81, 46), (81, 47), (81, 48), (81, 49)]) (by decide) hP) ?_
  show WP _ _ _ 76 [_, _] [] (TT 91 f g ([(81, 15), (81, 16), (81, 21), (81, 22), (81, 23), (81, 24), (81, 25), (81, 26), (81, 27), (81, 31), (81, 32), (81, 33), (81, 36), (81, 38), (81, 40), (81, 41), (81, 42), (81, 43), (81, 44), (81, 45), (81, 46), (81, 47), (81, 48), (81, 49)] ++ P))
  refine wp_aload_n hX (dk DX11_init 38 rfl) rfl ?_
  refine wp_bipush (v := 60) hX (dk DX11_init 39 rfl) (by decide) ?_
  refine t_newi (N := 60) hX (dk DX11_init 40 rfl) (by decide) (by decide) (by decide) (by decide) (by decide) (by decide) (old_c (old_r (by decide)) old_0) (lold_c (old_r (by decide)) (lold_n lold_0)) rfl rfl (hz.up (by decide)) ord91 (lt_P (A := [(81, 15), (81, 16), (81, 21), (81, 22), (81, 23), (81, 24), (81, 25), (81, 26), (81, 27), (81, 31), (81, 32), (81, 33), (81, 36), (81, 38), (81, 40), (81, 41), (81, 42), (81, 43), (81, 44), (81, 45), (81, 46), (81, 47), (81, 48), (81, 49)]) (by decide) hP (by decide)) ?_
  show WP _ _ _ 81 [_, _] [_, _] (TT 92 f g ([(81, 15), (81, 16), (81, 21), (81, 22), (81, 23), (81, 24), (81, 25), (81, 26), (81, 27), (81, 31), (81, 32), (81, 33), (81, 36), (81, 38), (81, 40), (81, 41), (81, 42), (81, 43), (81, 44), (81, 45), (81, 46), (81, 47), (81, 48), (81, 49)] ++ P))
  refine t_putF (A := []) (B := [(81, 16), (81, 21), (81, 22), (81, 23), (81, 24), (81, 25), (81, 26), (81, 27), (81, 31), (81, 32), (81, 33), (81, 36), (81, 38), (81, 40), (81, 41), (81, 42), (81, 43), (81, 44), (81, 45), (81, 46), (81, 47), (81, 48), (81, 49)] ++ P) hX (hin rfl) ffX11_39 (dk DX11_init 41 rfl) (by decide) rfl (by decide) rfl (by decide) (nin_P (A := [(81, 16), (81, 21), (81, 22), (81, 23), (81, 24), (81, 25), (81, 26), (81, 27), (81, 31), (81, 32), (81, 33), (81, 36), (81, 38), (81, 40), (81, 41), (81, 42), (81, 43), (81, 44), (81, 45), (81, 46), (81, 47), (81, 48), (81, 49)]) (by decide) hP) ?_
  show WP _ _ _ 84 [_, _] [] (TT 92 f g ([(81, 16), (81, 21), (81, 22), (81, 23), (81, 24), (81, 25), (81, 26), (81, 27), (81, 31), (81, 32), (81, 33), (81, 36), (81, 38), (81, 40), (81, 41), (81, 42), (81, 43), (81, 44), (81, 45), (81, 46), (81, 47), (81, 48), (81, 49)] ++ P))
  refine wp_aload_n hX (dk DX11_init 42 rfl) rfl ?_
  refine wp_sipush (v := 200) hX (dk DX11_init 43 rfl) (by decide) ?_
  refine t_newi (N := 200) hX (dk DX11_init 44 rfl) (by decide) (by decide) (by decide) (by decide) (by decide) (by decide) (old_c (old_r (by decide)) old_0) (lold_c (old_r (by decide)) (lold_n lold_0)) rfl rfl (hz.up (by decide)) ord92 (lt_P (A := [(81, 16), (81, 21), (81, 22), (81, 23), (81, 24), (81, 25), (81, 26), (81, 27), (81, 31), (81, 32), (81, 33), (81, 36), (81, 38), (81, 40), (81, 41), (81, 42), (81, 43), (81, 44), (81, 45), (81, 46), (81, 47), (81, 48), (81, 49)]) (by decide) hP (by decide)) ?_
  show WP _ _ _ 90 [_, _] [_, _] (TT 93 f g ([(81, 16), (81, 21), (81, 22), (81, 23), (81, 24), (81, 25), (81, 26), (81, 27), (81, 31), (81, 32), (81, 33), (81, 36), (81, 38), (81, 40), (81, 41), (81, 42), (81, 43), (81, 44), (81, 45), (81, 46), (81, 47), (81, 48), (81, 49)] ++ P))
  refine t_putF (A := []) (B := [(81, 21), (81, 22), (81, 23), (81, 24), (81, 25), (81, 26), (81, 27), (81, 31), (81, 32), (81, 33), (81, 36), (81, 38), (81, 40), (81, 41), (81, 42), (81, 43), (81, 44), (81, 45), (81, 46), (81, 47), (81, 48), (81, 49)] ++ P) hX (hin rfl) ffX11_42 (dk DX11_init 45 rfl) (by decide) rfl (by decide) rfl (by decide) (nin_P (A := [(81, 21), (81, 22), (81, 23), (81, 24), (81, 25), (81, 26), (81, 27), (81, 31), (81, 32), (81, 33), (81, 36), (81, 38), (81, 40), (81, 41), (81, 42), (81, 43), (81, 44), (81, 45), (81, 46), (81, 47), (81, 48), (81, 49)]) (by decide) hP) ?_
  show WP _ _ _ 93 [_, _] [] (TT 93 f g ([(81, 21), (81, 22), (81, 23), (81, 24), (81, 25), (81, 26), (81, 27), (81, 31), (81, 32), (81, 33), (81, 36), (81, 38), (81, 40), (81, 41), (81, 42), (81, 43), (81, 44), (81, 45), (81, 46), (81, 47), (81, 48), (81, 49)] ++ P))
  refine wp_aload_n hX (dk DX11_init 46 rfl) rfl ?_
  refine wp_bipush (v := 61) hX (dk DX11_init 47 rfl) (by decide) ?_
  refine t_newi (N := 61) hX (dk DX11_init 48 rfl) (by decide) (by decide) (by decide) (by decide) (by decide) (by decide) (old_c (old_r (by decide)) old_0) (lold_c (old_r (by decide)) (lold_n lold_0)) rfl rfl (hz.up (by decide)) ord93 (lt_P (A := [(81, 21), (81, 22), (81, 23), (81, 24), (81, 25), (81, 26), (81, 27), (81, 31), (81, 32), (81, 33), (81, 36), (81, 38), (81, 40), (81, 41), (81, 42), (81, 43), (81, 44), (81, 45), (81, 46), (81, 47), (81, 48), (81, 49)]) (by decide) hP (by decide)) ?_
  show WP _ _ _ 98 [_, _] [_, _] (TT 94 f g ([(81, 21), (81, 22), (81, 23), (81, 24), (81, 25), (81, 26), (81, 27), (81, 31), (81, 32), (81, 33), (81, 36), (81, 38), (81, 40), (81, 41), (81, 42), (81, 43), (81, 44), (81, 45), (81, 46), (81, 47), (81, 48), (81, 49)] ++ P))
  refine t_putF (A := []) (B := [(81, 22), (81, 23), (81, 24), (81, 25), (81, 26), (81, 27), (81, 31), (81, 32), (81, 33), (81, 36), (81, 38), (81, 40), (81, 41), (81, 42), (81, 43), (81, 44), (81, 45), (81, 46), (81, 47), (81, 48), (81, 49)] ++ P) hX (hin rfl) ffX11_45 (dk DX11_init 49 rfl) (by decide) rfl (by decide) rfl (by decide) (nin_P (A := [(81, 22), (81, 23), (81, 24), (81, 25), (81, 26), (81, 27), (81, 31), (81, 32), (81, 33), (81, 36), (81, 38), (81, 40), (81, 41), (81, 42), (81, 43), (81, 44), (81, 45), (81, 46), (81, 47), (81, 48), (81, 49)]) (by decide) hP) ?_
  show WP _ _ _ 101 [_, _] [] (TT 94 f g ([(81, 22), (81, 23), (81, 24), (81, 25), (81, 26), (81, 27), (81, 31), (81, 32), (81, 33), (81, 36), (81, 38), (81, 40), (81, 41), (81, 42), (81, 43), (81, 44), (81, 45), (81, 46), (81, 47), (81, 48), (81, 49)] ++ P))
  refine wp_aload_n hX (dk DX11_init 50 rfl) rfl ?_
  refine wp_bipush (v := 61) hX (dk DX11_init 51 rfl) (by decide) ?_
  refine t_newi (N := 61) hX (dk DX11_init 52 rfl) (by decide) (by decide) (by decide) (by decide) (by decide) (by decide) (old_c (old_r (by decide)) old_0) (lold_c (old_r (by decide)) (lold_n lold_0)) rfl rfl (hz.up (by decide)) ord94 (lt_P (A := [(81, 22), (81, 23), (81, 24), (81, 25), (81, 26), (81, 27), (81, 31), (81, 32), (81, 33), (81, 36), (81, 38), (81, 40), (81, 41), (81, 42), (81, 43), (81, 44), (81, 45), (81, 46), (81, 47), (81, 48), (81, 49)]) (by decide) hP (by decide)) ?_
  show WP _ _ _ 106 [_, _] [_, _] (TT 95 f g ([(81, 22), (81, 23), (81, 24), (81, 25), (81, 26), (81, 27), (81, 31), (81, 32), (81, 33), (81, 36), (81, 38), (81, 40), (81, 41), (81, 42), (81, 43), (81, 44), (81, 45), (81, 46), (81, 47), (81, 48), (81, 49)] ++ P))
  refine t_putF (A := []) (B := [(81, 23), (81, 24), (81, 25), (81, 26), (81, 27), (81, 31), (81, 32), (81, 33), (81, 36), (81, 38), (81, 40), (81, 41), (81, 42), (81, 43), (81, 44), (81, 45), (81, 46), (81, 47), (81, 48), (81, 49)] ++ P) hX (hin rfl) ffX11_48 (dk DX11_init 53 rfl) (by decide) rfl (by decide) rfl (by decide) (nin_P (A := [(81, 23), (81, 24), (81, 25), (81, 26), (81, 27), (81, 31), (81, 32), (81, 33), (81, 36), (81, 38), (81, 40), (81, 41), (81, 42), (81, 43), (81, 44), (81, 45), (81, 46), (81, 47), (81, 48), (81, 49)]) (by decide) hP) ?_
  show WP _ _ _ 109 [_, _] [] (TT 95 f g ([(81, 23), (81, 24), (81, 25), (81, 26), (81, 27), (81, 31), (81, 32), (81, 33), (81, 36), (81, 38), (81, 40), (81, 41), (81, 42), (81, 43), (81, 44), (81, 45), (81, 46), (81, 47), (81, 48), (81, 49)] ++ P))
  refine wp_aload_n hX (dk DX11_init 54 rfl) rfl ?_
  refine wp_bipush (v := 61) hX (dk DX11_init 55 rfl) (by decide) ?_
  refine t_newi (N := 61) hX (dk DX11_init 56 rfl) (by decide) (by decide) (by decide) (by decide) (by decide) (by decide) (old_c (old_r (by decide)) old_0) (lold_c (old_r (by decide)) (lold_n lold_0)) rfl rfl (hz.up (by decide)) ord95 (lt_P (A := [(81, 23), (81, 24), (81, 25), (81, 26), (81, 27), (81, 31), (81, 32), (81, 33), (81, 36), (81, 38), (81, 40), (81, 41), (81, 42), (81, 43), (81, 44), (81, 45), (81, 46), (81, 47), (81, 48), (81, 49)]) (by decide) hP (by decide)) ?_
  show WP _ _ _ 114 [_, _] [_, _] (TT 96 f g ([(81, 23), (81, 24), (81, 25), (81, 26), (81, 27), (81, 31), (81, 32), (81, 33), (81, 36), (81, 38), (81, 40), (81, 41), (81, 42), (81, 43), (81, 44), (81, 45), (81, 46), (81, 47), (81, 48), (81, 49)] ++ P))
  refine t_putF (A := []) (B := [(81, 24), (81, 25), (81, 26), (81, 27), (81, 31), (81, 32), (81, 33), (81, 36), (81, 38), (81, 40), (81, 41), (81, 42), (81, 43), (81, 44), (81, 45), (81, 46), (81, 47), (81, 48), (81, 49)] ++ P) hX (hin rfl) ffX11_51 (dk DX11_init 57 rfl) (by decide) rfl (by decide) rfl (by decide) (nin_P (A := [(81, 24), (81, 25), (81, 26), (81, 27), (81, 31), (81, 32), (81, 33), (81, 36), (81, 38), (81, 40), (81, 41), (81, 42), (81, 43), (81, 44), (81, 45), (81, 46), (81, 47), (81, 48), (81, 49)]) (by decide) hP) ?_
  show WP _ _ _ 117 [_, _] [] (TT 96 f g ([(81, 24), (81, 25), (81, 26), (81, 27), (81, 31), (81, 32), (81, 33), (81, 36), (81, 38), (81, 40), (81, 41), (81, 42), (81, 43), (81, 44), (81, 45), (81, 46), (81, 47), (81, 48), (81, 49)] ++ P))
  refine wp_aload_n hX (dk DX11_init 58 rfl) rfl ?_
  refine wp_sipush (v := 200) hX (dk DX11_init 59 rfl) (by decide) ?_
  refine t_newi (N := 200) hX (dk DX11_init_1 0 rfl) (by decide) (by decide) (by decide) (by decide) (by decide) (by decide) (old_c (old_r (by decide)) old_0) (lold_c (old_r (by decide)) (lold_n lold_0)) rfl rfl (hz.up (by decide)) ord96 (lt_P (A := [(81, 24), (81, 25), (81, 26), (81, 27), (81, 31), (81, 32), (81, 33), (81, 36), (81, 38), (81, 40), (81, 41), (81, 42), (81, 43), (81, 44), (81, 45), (81, 46), (81, 47), (81, 48), (81, 49)]) (by decide) hP (by decide)) ?_
  show WP _ _ _ 123 [_, _] [_, _] (TT 97 f g ([(81, 24), (81, 25), (81, 26), (81, 27), (81, 31), (81, 32), (81, 33), (81, 36), (81, 38), (81, 40), (81, 41), (81, 42), (81, 43), (81, 44), (81, 45), (81, 46), (81, 47), (81, 48), (81, 49)] ++ P))
  refine t_putF (A := []) (B := [(81, 25), (81, 26), (81, 27), (81, 31), (81, 32), (81, 33), (81, 36), (81, 38), (81, 40), (81, 41), (81, 42), (81, 43), (81, 44), (81, 45), (81, 46), (81, 47), (81, 48), (81, 49)] ++ P) hX (hin rfl) ffX11_54 (dk DX11_init_1 1 rfl) (by decide) rfl (by decide) rfl (by decide) (nin_P (A := [(81, 25), (81, 26), (81, 27), (81, 31), (81, 32), (81, 33), (81, 36), (81, 38), (81, 40), (81, 41), (81, 42), (81, 43), (81, 44), (81, 45), (81, 46), (81, 47), (81, 48), (81, 49)]) (by decide) hP) ?_
  show WP _ _ _ 126 [_, _] [] (TT 97 f g ([(81, 25), (81, 26), (81, 27), (81, 31), (81, 32), (81, 33), (81, 36), (81, 38), (81, 40), (81, 41), (81, 42), (81, 43), (81, 44), (81, 45), (81, 46), (81, 47), (81, 48), (81, 49)] ++ P))
  refine wp_aload_n hX (dk DX11_init_1 2 rfl) rfl ?_
  refine wp_sipush (v := 200) hX (dk DX11_init_1 3 rfl) (by decide) ?_
  refine t_newi (N := 200) hX (dk DX11_init_1 4 rfl) (by decide) (by decide) (by decide) (by decide) (by decide) (by decide) (old_c (old_r (by decide)) old_0) (lold_c (old_r (by decide)) (lold_n lold_0)) rfl rfl (hz.up (by decide)) ord97 (lt_P (A := [(81, 25), (81, 26), (81, 27), (81, 31), (81, 32), (81, 33), (81, 36), (81, 38), (81, 40), (81, 41), (81, 42), (81, 43), (81, 44), (81, 45), (81, 46), (81, 47), (81, 48), (81, 49)]) (by decide) hP (by decide)) ?_
  show WP _ _ _ 132 [_, _] [_, _] (TT 98 f g ([(81, 25), (81, 26), (81, 27), (81, 31), (81, 32), (81, 33), (81, 36), (81, 38), (81, 40), (81, 41), (81, 42), (81, 43), (81, 44), (81, 45), (81, 46), (81, 47), (81, 48), (81, 49)] ++ P))
  refine t_putF (A := []) (B := [(81, 26), (81, 27), (81, 31), (81, 32), (81, 33), (81, 36), (81, 38), (81, 40), (81, 41), (81, 42), (81, 43), (81, 44), (81, 45), (81, 46), (81, 47), (81, 48), (81, 49)] ++ P) hX (hin rfl) ffX11_57 (dk DX11_init_1 5 rfl) (by decide) rfl (by decide) rfl (by decide) (nin_P (A := [(81, 26), (81, 27), (81, 31), (81, 32), (81, 33), (81, 36), (81, 38), (81, 40), (81, 41), (81, 42), (81, 43), (81, 44), (81, 45), (81, 46), (81, 47), (81, 48), (81, 49)]) (by decide) hP) ?_
  show WP _ _ _ 135 [_, _] [] (TT 98 f g ([(81, 26), (81, 27), (81, 31), (81, 32), (81, 33), (81, 36), (81, 38), (81, 40), (81, 41), (81, 42), (81, 43), (81, 44), (81, 45), (81, 46), (81, 47), (81, 48), (81, 49)] ++ P))
  refine wp_aload_n hX (dk DX11_init_1 6 rfl) rfl ?_
  refine wp_bipush (v := 6) hX (dk DX11_init_1 7 rfl) (by decide) ?_
  refine t_newi (N := 6) hX (dk DX11_init_1 8 rfl) (by decide) (by decide) (by decide) (by decide) (by decide) (by decide) (old_c (old_r (by decide)) old_0) (lold_c (old_r (by decide)) (lold_n lold_0)) rfl rfl (hz.up (by decide)) ord98 (lt_P (A := [(81, 26), (81, 27), (81, 31), (81, 32), (81, 33), (81, 36), (81, 38), (81, 40), (81, 41), (81, 42), (81, 43), (81, 44), (81, 45), (81, 46), (81, 47), (81, 48), (81, 49)]) (by decide) hP (by decide)) ?_
  show WP _ _ _ 140 [_, _] [_, _] (TT 99 f g ([(81, 26), (81, 27), (81, 31), (81, 32), (81, 33), (81, 36), (81, 38), (81, 40), (81, 41), (81, 42), (81, 43), (81, 44), (81, 45), (81, 46), (81, 47), (81, 48), (81, 49)] ++ P))
  refine t_putF (A := []) (B := [(81, 27), (81, 31), (81, 32), (81, 33), (81, 36), (81, 38), (81, 40), (81, 41), (81, 42), (81, 43), (81, 44), (81, 45), (81, 46), (81, 47), (81, 48), (81, 49)] ++ P) hX (hin rfl) ffX11_60 (dk DX11_init_1 9 rfl) (by decide) rfl (by decide) rfl (by decide) (nin_P (A := [(81, 27), (81, 31), (81, 32), (81, 33), (81, 36), (81, 38), (81, 40), (81, 41), (81, 42), (81, 43), (81, 44), (81, 45), (81, 46), (81, 47), (81, 48), (81, 49)]) (by decide) hP) ?_
  show WP _ _ _ 143 [_, _] [] (TT 99 f g ([(81, 27), (81, 31), (81, 32), (81, 33), (81, 36), (81, 38), (81, 40), (81, 41), (81, 42), (81, 43), (81, 44), (81, 45), (81, 46), (81, 47), (81, 48), (81, 49)] ++ P))
  refine wp_aload_n hX (dk DX11_init_1 10 rfl) rfl ?_
  refine wp_iconst (v := 3) hX (dk DX11_init_1 11 rfl) (by decide) ?_
  refine t_newi (N := 3) hX (dk DX11_init_1 12 rfl) (by decide) (by decide) (by decide) (by decide) (by decide) (by decide) (old_c (old_r (by decide)) old_0) (lold_c (old_r (by decide)) (lold_n lold_0)) rfl rfl (hz.up (by decide)) ord99 (lt_P (A := [(81, 27), (81, 31), (81, 32), (81, 33), (81, 36), (81, 38), (81, 40), (81, 41), (81, 42), (81, 43), (81, 44), (81, 45), (81, 46), (81, 47), (81, 48), (81, 49)]) (by decide) hP (by decide)) ?_
  show WP _ _ _ 147 [_, _] [_, _] (TT 100 f g ([(81, 27), (81, 31), (81, 32), (81, 33), (81, 36), (81, 38), (81, 40), (81, 41), (81, 42), (81, 43), (81, 44), (81, 45), (81, 46), (81, 47), (81, 48), (81, 49)] ++ P))
  refine t_putF (A := []) (B := [(81, 31), (81, 32), (81, 33), (81, 36), (81, 38), (81, 40), (81, 41), (81, 42), (81, 43), (81, 44), (81, 45), (81, 46), (81, 47), (81, 48), (81, 49)] ++ P) hX (hin rfl) ffX11_63 (dk DX11_init_1 13 rfl) (by decide) rfl (by decide) rfl (by decide) (nin_P (A := [(81, 31), (81, 32), (81, 33), (81, 36), (81, 38), (81, 40), (81, 41), (81, 42), (81, 43), (81, 44), (81, 45), (81, 46), (81, 47), (81, 48), (81, 49)]) (by decide) hP) ?_
  show WP _ _ _ 150 [_, _] [] (TT 100 f g ([(81, 31), (81, 32), (81, 33), (81, 36), (81, 38), (81, 40), (81, 41), (81, 42), (81, 43), (81, 44), (81, 45), (81, 46), (81, 47), (81, 48), (81, 49)] ++ P))
  refine wp_aload_n hX (dk DX11_init_1 14 rfl) rfl ?_
  refine wp_bipush (v := 6) hX (dk DX11_init_1 15 rfl) (by decide) ?_
  refine t_newi (N := 6) hX (dk DX11_init_1 16 rfl) (by decide) (by decide) (by decide) (by decide) (by decide) (by decide) (old_c (old_r (by decide)) old_0) (lold_c (old_r (by decide)) (lold_n lold_0)) rfl rfl (hz.up (by decide)) ord100 (lt_P (A := [(81, 31), (81, 32), (81, 33), (81, 36), (81, 38), (81, 40), (81, 41), (81, 42), (81, 43), (81, 44), (81, 45), (81, 46), (81, 47), (81, 48), (81, 49)]) (by decide) hP (by decide)) ?_
  show WP _ _ _ 155 [_, _] [_, _] (TT 101 f g ([(81, 31), (81, 32), (81, 33), (81, 36), (81, 38), (81, 40), (81, 41), (81, 42), (81, 43), (81, 44), (81, 45), (81, 46), (81, 47), (81, 48), (81, 49)] ++ P))
  refine t_putF (A := []) (B := [(81, 32), (81, 33), (81, 36), (81, 38), (81, 40), (81, 41), (81, 42), (81, 43), (81, 44), (81, 45), (81, 46), (81, 47), (81, 48), (81, 49)] ++ P) hX (hin rfl) ffX11_66 (dk DX11_init_1 17 rfl) (by decide) rfl (by decide) rfl (by decide) (nin_P (A := [(81, 32), (81, 33), (81, 36), (81, 38), (81, 40), (81, 41), (81, 42), (81, 43), (81, 44), (81, 45), (81, 46), (81, 47), (81, 48), (81, 49)]) (by decide) hP) ?_
  show WP _ _ _ 158 [_, _] [] (TT 101 f g ([(81, 32), (81, 33), (81, 36), (81, 38), (81, 40), (81, 41), (81, 42), (81, 43), (81, 44), (81, 45), (81, 46), (81, 47), (81, 48), (81, 49)] ++ P))
  refine wp_aload_n hX (dk DX11_init_1 18 rfl) rfl ?_
  refine wp_bipush (v := 6) hX (dk DX11_init_1 19 rfl) (by decide) ?_
  refine t_newi (N := 6) hX (dk DX11_init_1 20 rfl) (by decide) (by decide) (by decide) (by decide) (by decide) (by decide) (old_c (old_r (by decide)) old_0) (lold_c (old_r (by decide)) (lold_n lold_0)) rfl rfl (hz.up (by decide)) ord101 (lt_P (A := [(81, 32), (81, 33), (81, 36), (81, 38), (81, 40), (81, 41), (81, 42), (81, 43), (81, 44), (81, 45), (81, 46), (81, 47), (81, 48), (81, 49)]) (by decide) hP (by decide)) ?_
  show WP _ _ _ 163 [_, _] [_, _] (TT 102 f g ([(81, 32), (81, 33), (81, 36), (81, 38), (81, 40), (81, 41), (81, 42), (81, 43), (81, 44), (81, 45), (81, 46), (81, 47), (81, 48), (81, 49)] ++ P))
  refine t_putF (A := []) (B := [(81, 33), (81, 36), (81, 38), (81, 40), (81, 41), (81, 42), (81, 43), (81, 44), (81, 45), (81, 46), (81, 47), (81, 48), (81, 49)] ++ P) hX (hin rfl) ffX11_69 (dk DX11_init_1 21 rfl) (by decide) rfl (by decide) rfl (by decide) (nin_P (A := [(81, 33), (81, 36), (81, 38), (81, 40), (81, 41), (81, 42), (81, 43), (81, 44), (81, 45), (81, 46), (81, 47), (81, 48), (81, 49)]) (by decide) hP) ?_
  show WP _ _ _ 166 [_, _] [] (TT 102 f g ([(81, 33), (81, 36), (81, 38), (81, 40), (81, 41), (81, 42), (81, 43), (81, 44), (81, 45), (81, 46), (81, 47), (81, 48), (81, 49)] ++ P))
  refine wp_aload_n hX (dk DX11_init_1 22 rfl) rfl ?_
  refine wp_iconst (v := 3) hX (dk DX11_init_1 23 rfl) (by decide) ?_
  refine t_newi (N := 3) hX (dk DX11_init_1 24 rfl) (by decide) (by decide) (by decide) (by decide) (by decide) (by decide) (old_c (old_r (by decide)) old_0) (lold_c (old_r (by decide)) (lold_n lold_0)) rfl rfl (hz.up (by decide)) ord102 (lt_P (A := [(81, 33), (81, 36), (81, 38), (81, 40), (81, 41), (81, 42), (81, 43), (81, 44), (81, 45), (81, 46), (81, 47), (81, 48), (81, 49)]) (by decide) hP (by decide)) ?_
  show WP _ _ _ 170 [_, _] [_, _] (TT 103 f g ([(81, 33), (81, 36), (81, 38), (81, 40), (81, 41), (81, 42), (81, 43), (81, 44), (81, 45), (81, 46), (81, 47), (81, 48), (81, 49)] ++ P))
  refine t_putF (A := []) (B := [(81, 36), (81, 38), (81, 40), (81, 41), (81, 42), (81, 43), (81, 44), (81, 45), (81, 46), (81, 47), (81, 48), (81, 49)] ++ P) hX (hin rfl) ffX11_72 (dk DX11_init_1 25 rfl) (by decide) rfl (by decide) rfl (by decide) (nin_P (A := [(81, 36), (81, 38), (81, 40), (81, 41), (81, 42), (81, 43), (81, 44), (81, 45), (81, 46), (81, 47), (81, 48), (81, 49)]) (by decide) hP) ?_
  show WP _ _ _ 173 [_, _] [] (TT 103 f g ([(81, 36), (81, 38), (81, 40), (81, 41), (81, 42), (81, 43), (81, 44), (81, 45), (81, 46), (81, 47), (81, 48), (81, 49)] ++ P))
  refine wp_aload_n hX (dk DX11_init_1 26 rfl) rfl ?_
  refine wp_sipush (v := 160) hX (dk DX11_init_1 27 rfl) (by decide) ?_
  refine t_newi (N := 160) hX (dk DX11_init_1 28 rfl) (by decide) (by decide) (by decide) (by decide) (by decide) (by decide) (old_c (old_r (by decide)) old_0) (lold_c (old_r (by decide)) (lold_n lold_0)) rfl rfl (hz.up (by decide)) ord103 (lt_P (A := [(81, 36), (81, 38), (81, 40), (81, 41), (81, 42), (81, 43), (81, 44), (81, 45), (81, 46), (81, 47), (81, 48), (81, 49)]) (by decide) hP (by decide)) ?_
  show WP _ _ _ 179 [_, _] [_, _] (TT 104 f g ([(81, 36), (81, 38), (81, 40), (81, 41), (81, 42), (81, 43), (81, 44), (81, 45), (81, 46), (81, 47), (81, 48), (81, 49)] ++ P))
  refine t_putF (A := []) (B := [(81, 38), (81, 40), (81, 41), (81, 42), (81, 43), (81, 44), (81, 45), (81, 46), (81, 47), (81, 48), (81, 49)] ++ P) hX (hin rfl) ffX11_75 (dk DX11_init_1 29 rfl) (by decide) rfl (by decide) rfl (by decide) (nin_P (A := [(81, 38), (81, 40), (81, 41), (81, 42), (81, 43), (81, 44), (81, 45), (81, 46), (81, 47), (81, 48), (81, 49)]) (by decide) hP) ?_
  show WP _ _ _ 182 [_, _] [] (TT 104 f g ([(81, 38), (81, 40), (81, 41), (81, 42), (81, 43), (81, 44), (81, 45), (81, 46), (81, 47), (81, 48), (81, 49)] ++ P))
  refine wp_aload_n hX (dk DX11_init_1 30 rfl) rfl ?_
  refine wp_bipush (v := 50) hX (dk DX11_init_1 31 rfl) (by decide) ?_
  refine t_newi (N := 50) hX (dk DX11_init_1 32 rfl) (by decide) (by decide) (by decide) (by decide) (by decide) (by decide) (old_c (old_r (by decide)) old_0) (lold_c (old_r (by decide)) (lold_n lold_0)) rfl rfl (hz.up (by decide)) ord104 (lt_P (A := [(81, 38), (81, 40), (81, 41), (81, 42), (81, 43), (81, 44), (81, 45), (81, 46), (81, 47), (81, 48), (81, 49)]) (by decide) hP (by decide)) ?_
  show WP _ _ _ 187 [_, _] [_, _] (TT 105 f g ([(81, 38), (81, 40), (81, 41), (81, 42), (81, 43), (81, 44), (81, 45), (81, 46), (81, 47), (81, 48), (81, 49)] ++ P))
  refine t_putF (A := []) (B := [(81, 40), (81, 41), (81, 42), (81, 43), (81, 44), (81, 45), (81, 46), (81, 47), (81, 48), (81, 49)] ++ P) hX (hin rfl) ffX11_78 (dk DX11_init_1 33 rfl) (by decide) rfl (by decide) rfl (by decide) (nin_P (A := [(81, 40), (81, 41), (81, 42), (81, 43), (81, 44), (81, 45), (81, 46), (81, 47), (81, 48), (81, 49)]) (by decide) hP) ?_
  show WP _ _ _ 190 [_, _] [] (TT 105 f g ([(81, 40), (81, 41), (81, 42), (81, 43), (81, 44), (81, 45), (81, 46), (81, 47), (81, 48), (81, 49)] ++ P))
  refine wp_aload_n hX (dk DX11_init_1 34 rfl) rfl ?_
  refine wp_bipush (v := 24) hX (dk DX11_init_1 35 rfl) (by decide) ?_
  refine t_newi (N := 24) hX (dk DX11_init_1 36 rfl) (by decide) (by decide) (by decide) (by decide) (by decide) (by decide) (old_c (old_r (by decide)) old_0) (lold_c (old_r (by decide)) (lold_n lold_0)) rfl rfl (hz.up (by decide)) ord105 (lt_P (A := [(81, 40), (81, 41), (81, 42), (81, 43), (81, 44), (81, 45), (81, 46), (81, 47), (81, 48), (81, 49)]) (by decide) hP (by decide)) ?_
  show WP _ _ _ 195 [_, _] [_, _] (TT 106 f g ([(81, 40), (81, 41), (81, 42), (81, 43), (81, 44), (81, 45), (81, 46), (81, 47), (81, 48), (81, 49)] ++ P))
  refine t_putF (A := []) (B := [(81, 41), (81, 42), (81, 43), (81, 44), (81, 45), (81, 46), (81, 47), (81, 48), (81, 49)] ++ P) hX (hin rfl) ffX11_81 (dk DX11_init_1 37 rfl) (by decide) rfl (by decide) rfl (by decide) (nin_P (A := [(81, 41), (81, 42), (81, 43), (81, 44), (81, 45), (81, 46), (81, 47), (81, 48), (81, 49)]) (by decide) hP) ?_
  show WP _ _ _ 198 [_, _] [] (TT 106 f g ([(81, 41), (81, 42), (81, 43), (81, 44), (81, 45), (81, 46), (81, 47), (81, 48), (81, 49)] ++ P))
  refine wp_aload_n hX (dk DX11_init_1 38 rfl) rfl ?_
  refine wp_bipush (v := 6) hX (dk DX11_init_1 39 rfl) (by decide) ?_
  refine t_newi (N := 6) hX (dk DX11_init_1 40 rfl) (by decide) (by decide) (by decide) (by decide) (by decide) (by decide) (old_c (old_r (by decide)) old_0) (lold_c (old_r (by decide)) (lold_n lold_0)) rfl rfl (hz.up (by decide)) ord106 (lt_P (A := [(81, 41), (81, 42), (81, 43), (81, 44), (81, 45), (81, 46), (81, 47), (81, 48), (81, 49)]) (by decide) hP (by decide)) ?_
  show WP _ _ _ 203 [_, _] [_, _] (TT 107 f g ([(81, 41), (81, 42), (81, 43), (81, 44), (81, 45), (81, 46), (81, 47), (81, 48), (81, 49)] ++ P))
  refine t_putF (A := []) (B := [(81, 42), (81, 43), (81, 44), (81, 45), (81, 46), (81, 47), (81, 48), (81, 49)] ++ P) hX (hin rfl) ffX11_84 (dk DX11_init_1 41 rfl) (by decide) rfl (by decide) rfl (by decide) (nin_P (A := [(81, 42), (81, 43), (81, 44), (81, 45), (81, 46), (81, 47), (81, 48), (81, 49)]) (by decide) hP) ?_
  show WP _ _ _ 206 [_, _] [] (TT 107 f g ([(81, 42), (81, 43), (81, 44), (81, 45), (81, 46), (81, 47), (81, 48), (81, 49)] ++ P))
  refine wp_aload_n hX (dk DX11_init_1 42 rfl) rfl ?_
  refine wp_bipush (v := 6) hX (dk DX11_init_1 43 rfl) (by decide) ?_
  refine t_newi (N := 6) hX (dk DX11_init_1 44 rfl) (by decide) (by decide) (by decide) (by decide) (by decide) (by decide) (old_c (old_r (by decide)) old_0) (lold_c (old_r (by decide)) (lold_n lold_0)) rfl rfl (hz.up (by decide)) ord107 (lt_P (A := [(81, 42), (81, 43), (81, 44), (81, 45), (81, 46), (81, 47), (81, 48), (81, 49)]) (by decide) hP (by decide)) ?_
  show WP _ _ _ 211 [_, _] [_, _] (TT 108 f g ([(81, 42), (81, 43), (81, 44), (81, 45), (81, 46), (81, 47), (81, 48), (81, 49)] ++ P))
  refine t_putF (A := []) (B := [(81, 43), (81, 44), (81, 45), (81, 46), (81, 47), (81, 48), (81, 49)] ++ P) hX (hin rfl) ffX11_87 (dk DX11_init_1 45 rfl) (by decide) rfl (by decide) rfl (by decide) (nin_P (A := [(81, 43), (81, 44), (81, 45), (81, 46), (81, 47), (81, 48), (81, 49)]) (by decide) hP) ?_
  show WP _ _ _ 214 [_, _] [] (TT 108 f g ([(81, 43), (81, 44), (81, 45), (81, 46), (81, 47), (81, 48), (81, 49)] ++ P))
  refine wp_aload_n hX (dk DX11_init_1 46 rfl) rfl ?_
  refine wp_sipush (v := 360) hX (dk DX11_init_1 47 rfl) (by decide) ?_
  refine t_newl (N := 360) hX (dk DX11_init_1 48 rfl) (by decide) (by decide) (by decide) (by decide) (by decide) (by decide) (old_c (old_r (by decide)) old_0) (lold_c (old_r (by decide)) (lold_n lold_0)) rfl rfl (hz.up (by decide)) ord108 (lt_P (A := [(81, 43), (81, 44), (81, 45), (81, 46), (81, 47), (81, 48), (81, 49)]) (by decide) hP (by decide)) ?_
  show WP _ _ _ 220 [_, _] [_, _] (TT 109 f g ([(81, 43), (81, 44), (81, 45), (81, 46), (81, 47), (81, 48), (81, 49)] ++ P))
  refine t_putF (A := []) (B := [(81, 44), (81, 45), (81, 46), (81, 47), (81, 48), (81, 49)] ++ P) hX (hin rfl) ffX11_90 (dk DX11_init_1 49 rfl) (by decide) rfl (by decide) rfl (by decide) (nin_P (A := [(81, 44), (81, 45), (81, 46), (81, 47), (81, 48), (81, 49)]) (by decide) hP) ?_
  show WP _ _ _ 223 [_, _] [] (TT 109 f g ([(81, 44), (81, 45), (81, 46), (81, 47), (81, 48), (81, 49)] ++ P))
  refine wp_aload_n hX (dk DX11_init_1 50 rfl) rfl ?_
  refine wp_bipush (v := 11) hX (dk DX11_init_1 51 rfl) (by decide) ?_
  refine t_newi (N := 11) hX (dk DX11_init_1 52 rfl) (by decide) (by decide) (by decide) (by decide) (by decide) (by decide) (old_c (old_r (by decide)) old_0) (lold_c (old_r (by decide)) (lold_n lold_0)) rfl rfl (hz.up (by decide)) ord109 (lt_P (A := [(81, 44), (81, 45), (81, 46), (81, 47), (81, 48), (81, 49)]) (by decide) hP (by decide)) ?_
  show WP _ _ _ 228 [_, _] [_, _] (TT 110 f g ([(81, 44), (81, 45), (81, 46), (81, 47), (81, 48), (81, 49)] ++ P))
  refine t_putF (A := []) (B := [(81, 45), (81, 46), (81, 47), (81, 48), (81, 49)] ++ P) hX (hin rfl) ffX11_94 (dk DX11_init_1 53 rfl) (by decide) rfl (by decide) rfl (by decide) (nin_P (A := [(81, 45), (81, 46), (81, 47), (81, 48), (81, 49)]) (by decide) hP) ?_
  show WP _ _ _ 231 [_, _] [] (TT 110 f g ([(81, 45), (81, 46), (81, 47), (81, 48), (81, 49)] ++ P))
  refine wp_aload_n hX (dk DX11_init_1 54 rfl) rfl ?_
  refine wp_bipush (v := 11) hX (dk DX11_init_1 55 rfl) (by decide) ?_
  refine t_newi (N := 11) hX (dk DX11_init_1 56 rfl) (by decide) (by decide) (by decide) (by decide) (by decide) (by decide) (old_c (old_r (by decide)) old_0) (lold_c (old_r (by decide)) (lold_n lold_0)) rfl rfl (hz.up (by decide)) ord110 (lt_P (A := [(81, 45), (81, 46), (81, 47), (81, 48), (81, 49)]) (by decide) hP (by decide)) ?_
  show WP _ _ _ 236 [_, _] [_, _] (TT 111 f g ([(81, 45), (81, 46), (81, 47), (81, 48), (81, 49)] ++ P))
  refine t_putF (A := []) (B := [(81, 46), (81, 47), (81, 48), (81, 49)] ++ P) hX (hin rfl) ffX11_97 (dk DX11_init_1 57 rfl) (by decide) rfl (by decide) rfl (by decide) (nin_P (A := [(81, 46), (81, 47), (81, 48), (81, 49)]) (by decide) hP) ?_
  show WP _ _ _ 239 [_, _] [] (TT 111 f g ([(81, 46), (81, 47), (81, 48), (81, 49)] ++ P))
  refine wp_aload_n hX (dk DX11_init_1 58 rfl) rfl ?_
  refine wp_bipush (v := 110) hX (dk DX11_init_1 59 rfl) (by decide) ?_
  refine t_newi (N := 110) hX (dk DX11_init_2 0 rfl) (by decide) (by decide) (by decide) (by decide) (by decide) (by decide) (old_c (old_r (by decide)) old_0) (lold_c (old_r (by decide)) (lold_n lold_0)) rfl rfl (hz.up (by decide)) ord111 (lt_P (A := [(81, 46), (81, 47), (81, 48), (81, 49)]) (by decide) hP (by decide)) ?_
  show WP _ _ _ 244 [_, _] [_, _] (TT 112 f g ([(81, 46), (81, 47), (81, 48), (81, 49)] ++ P))
  refine t_putF (A := []) (B := [(81, 47), (81, 48), (81, 49)] ++ P) hX (hin rfl) ffX11_100 (dk DX11_init_2 1 rfl) (by decide) rfl (by decide) rfl (by decide) (nin_P (A := [(81, 47), (81, 48), (81, 49)]) (by decide) hP) ?_
  show WP _ _ _ 247 [_, _] [] (TT 112 f g ([(81, 47), (81, 48), (81, 49)] ++ P))
  refine wp_aload_n hX (dk DX11_init_2 2 rfl) rfl ?_
  refine wp_bipush (v := 110) hX (dk DX11_init_2 3 rfl) (by decide) ?_
  refine t_newi (N := 110) hX (dk DX11_init_2 4 rfl) (by decide) (by decide) (by decide) (by decide) (by decide) (by decide) (old_c (old_r (by decide)) old_0) (lold_c (old_r (by decide)) (lold_n lold_0)) rfl rfl (hz.up (by decide)) ord112 (lt_P (A := [(81, 47), (81, 48), (81, 49)]) (by decide) hP (by decide)) ?_
  show WP _ _ _ 252 [_, _] [_, _] (TT 113 f g ([(81, 47), (81, 48), (81, 49)] ++ P))
  refine t_putF (A := []) (B := [(81, 48), (81, 49)] ++ P) hX (hin rfl) ffX11_103 (dk DX11_init_2 5 rfl) (by decide) rfl (by decide) rfl (by decide) (nin_P (A := [(81, 48), (81, 49)]) (by decide) hP) ?_
  show WP _ _ _ 255 [_, _] [] (TT 113 f g ([(81, 48), (81, 49)] ++ P))
  refine wp_aload_n hX (dk DX11_init_2 6 rfl) rfl ?_
  refine wp_bipush (v := 11) hX (dk DX11_init_2 7 rfl) (by decide) ?_
  refine t_newi (N := 11) hX (dk DX11_init_2 8 rfl) (by decide) (by decide) (by decide) (by decide) (by decide) (by decide) (old_c (old_r (by decide)) old_0) (lold_c (old_r (by decide)) (lold_n lold_0)) rfl rfl (hz.up (by decide)) ord113 (lt_P (A := [(81, 48), (81, 49)]) (by decide) hP (by decide)) ?_
  show WP _ _ _ 260 [_, _] [_, _] (TT 114 f g ([(81, 48), (81, 49)] ++ P))
  refine t_putF (A := []) (B := [(81, 49)] ++ P) hX (hin rfl) ffX11_106 (dk DX11_init_2 9 rfl) (by decide) rfl (by decide) rfl (by decide) (nin_P (A := [(81, 49)]) (by decide) hP) ?_
  show WP _ _ _ 263 [_, _] [] (TT 114 f g ([(81, 49)] ++ P))
  refine wp_aload_n hX (dk DX11_init_2 10 rfl) rfl ?_
  refine wp_bipush (v := 11) hX (dk DX11_init_2 11 rfl) (by decide) ?_
  refine t_newi (N := 11) hX (dk DX11_init_2 12 rfl) (by decide) (by decide) (by decide) (by decide) (by decide) (by decide) (old_c (old_r (by decide)) old_0) (lold_c (old_r (by decide)) (lold_n lold_0)) rfl rfl (hz.up (by decide)) ord114 (lt_P (A := [(81, 49)]) (by decide) hP (by decide)) ?_
  show WP _ _ _ 268 [_, _] [_, _] (TT 115 f g ([(81, 49)] ++ P))
  refine t_putF (A := []) (B := [] ++ P) hX (hin rfl) ffX11_109 (dk DX11_init_2 13 rfl) (by decide) rfl (by decide) rfl (by decide) (nin_P (A := []) (by decide) hP) ?_
  show WP _ _ _ 271 [_, _] [] (TT 115 f g ([] ++ P))
  refine wp_iconst (v := 0) hX (dk DX11_init_2 14 rfl) (by decide) ?_
  refine wp_istore_n hX (dk DX11_init_2 15 rfl) rfl rfl hN (Nat.le_of_ble_eq_true rfl) ?_
  show WP _ _ _ 273 [_, _] [] _
  refine wp_iload_n hX (dk DX11_init_2 16 rfl) rfl ?_
  refine wp_bipush (v := 6) hX (dk DX11_init_2 17 rfl) (by decide) ?_
  refine wp_icmp_ge (tgt := 292) hX (dk DX11_init_2 18 rfl) (by decide) (fun h_ => absurd h_ (by decide)) (fun _ => ?_)
  refine wp_aload_n hX (dk DX11_init_2 19 rfl) rfl ?_
  refine t_getr (x := 106) hX flX11_84 (dk DX11_init_2 20 rfl) (by decide) rfl rfl (nin_P (A := []) (by decide) hP) (by decide) ?_
  refine wp_iload_n hX (dk DX11_init_2 21 rfl) rfl ?_
  refine wp_iconst (v := -1) hX (dk DX11_init_2 22 rfl) (by decide) ?_
  refine t_iast (k := 0) hX (dk DX11_init_2 23 rfl) (by decide) rfl rfl (by decide) (by decide) ?_
  refine wp_iinc (v := 1) hX (dk DX11_init_2 24 rfl) rfl (by decide) rfl hN ?_
  show WP _ _ _ 289 [_, _] [] _
  refine wp_goto (tgt := 273) hX (dk DX11_init_2 25 rfl) (by decide) ?_
  refine wp_iload_n hX (dk DX11_init_2 16 rfl) rfl ?_
  refine wp_bipush (v := 6) hX (dk DX11_init_2 17 rfl) (by decide) ?_
  refine wp_icmp_ge (tgt := 292) hX (dk DX11_init_2 18 rfl) (by decide) (fun h_ => absurd h_ (by decide)) (fun _ => ?_)
  refine wp_aload_n hX (dk DX11_init_2 19 rfl) rfl ?_
  refine t_getr (x := 106) hX flX11_84 (dk DX11_init_2 20 rfl) (by decide) rfl rfl (nin_P (A := []) (by decide) hP) (by decide) ?_
  refine wp_iload_n hX (dk DX11_init_2 21 rfl) rfl ?_
  refine wp_iconst (v := -1) hX (dk DX11_init_2 22 rfl) (by decide) ?_
  refine t_iast (k := 1) hX (dk DX11_init_2 23 rfl) (by decide) rfl rfl (by decide) (by decide) ?_
  refine wp_iinc (v := 2) hX (dk DX11_init_2 24 rfl) rfl (by decide) rfl hN ?_
  show WP _ _ _ 289 [_, _] [] _
  refine wp_goto (tgt := 273) hX (dk DX11_init_2 25 rfl) (by decide) ?_
  refine wp_iload_n hX (dk DX11_init_2 16 rfl) rfl ?_
  refine wp_bipush (v := 6) hX (dk DX11_init_2 17 rfl) (by decide) ?_
  refine wp_icmp_ge (tgt := 292) hX (dk DX11_init_2 18 rfl) (by decide) (fun h_ => absurd h_ (by decide)) (fun _ => ?_)
  refine wp_aload_n hX (dk DX11_init_2 19 rfl) rfl ?_
  refine t_getr (x := 106) hX flX11_84 (dk DX11_init_2 20 rfl) (by decide) rfl rfl (nin_P (A := []) (by decide) hP) (by decide) ?_
  refine wp_iload_n hX (dk DX11_init_2 21 rfl) rfl ?_
  refine wp_iconst (v := -1) hX (dk DX11_init_2 22 rfl) (by decide) ?_
  refine t_iast (k := 2) hX (dk DX11_init_2 23 rfl) (by decide) rfl rfl (by decide) (by decide) ?_
  refine wp_iinc (v := 3) hX (dk DX11_init_2 24 rfl) rfl (by decide) rfl hN ?_
  show WP _ _ _ 289 [_, _] [] _
  refine wp_goto (tgt := 273) hX (dk DX11_init_2 25 rfl) (by decide) ?_
  refine wp_iload_n hX (dk DX11_init_2 16 rfl) rfl ?_
  refine wp_bipush (v := 6) hX (dk DX11_init_2 17 rfl) (by decide) ?_
  refine wp_icmp_ge (tgt := 292) hX (dk DX11_init_2 18 rfl) (by decide) (fun h_ => absurd h_ (by decide)) (fun _ => ?_)
  refine wp_aload_n hX (dk DX11_init_2 19 rfl) rfl ?_
  refine t_getr (x := 106) hX flX11_84 (dk DX11_init_2 20 rfl) (by decide) rfl rfl (nin_P (A := []) (by decide) hP) (by decide) ?_
  refine wp_iload_n hX (dk DX11_init_2 21 rfl) rfl ?_
  refine wp_iconst (v := -1) hX (dk DX11_init_2 22 rfl) (by decide) ?_
  refine t_iast (k := 3) hX (dk DX11_init_2 23 rfl) (by decide) rfl rfl (by decide) (by decide) ?_
  refine wp_iinc (v := 4) hX (dk DX11_init_2 24 rfl) rfl (by decide) rfl hN ?_
  show WP _ _ _ 289 [_, _] [] _
  refine wp_goto (tgt := 273) hX (dk DX11_init_2 25 rfl) (by decide) ?_
  refine wp_iload_n hX (dk DX11_init_2 16 rfl) rfl ?_
  refine wp_bipush (v := 6) hX (dk DX11_init_2 17 rfl) (by decide) ?_
  refine wp_icmp_ge (tgt := 292) hX (dk DX11_init_2 18 rfl) (by decide) (fun h_ => absurd h_ (by decide)) (fun _ => ?_)
  refine wp_aload_n hX (dk DX11_init_2 19 rfl) rfl ?_
  refine t_getr (x := 106) hX flX11_84 (dk DX11_init_2 20 rfl) (by decide) rfl rfl (nin_P (A := []) (by decide) hP) (by decide) ?_
  refine wp_iload_n hX (dk DX11_init_2 21 rfl) rfl ?_
  refine wp_iconst (v := -1) hX (dk DX11_init_2 22 rfl) (by decide) ?_
  refine t_iast (k := 4) hX (dk DX11_init_2 23 rfl) (by decide) rfl rfl (by decide) (by decide) ?_
  refine wp_iinc (v := 5) hX (dk DX11_init_2 24 rfl) rfl (by decide) rfl hN ?_
  show WP _ _ _ 289 [_, _] [] _
  refine wp_goto (tgt := 273) hX (dk DX11_init_2 25 rfl) (by decide) ?_
  refine wp_iload_n hX (dk DX11_init_2 16 rfl) rfl ?_
  refine wp_bipush (v := 6) hX (dk DX11_init_2 17 rfl) (by decide) ?_
  refine wp_icmp_ge (tgt := 292) hX (dk DX11_init_2 18 rfl) (by decide) (fun h_ => absurd h_ (by decide)) (fun _ => ?_)
  refine wp_aload_n hX (dk DX11_init_2 19 rfl) rfl ?_
  refine t_getr (x := 106) hX flX11_84 (dk DX11_init_2 20 rfl) (by decide) rfl rfl (nin_P (A := []) (by decide) hP) (by decide) ?_
  refine wp_iload_n hX (dk DX11_init_2 21 rfl) rfl ?_
  refine wp_iconst (v := -1) hX (dk DX11_init_2 22 rfl) (by decide) ?_
  refine t_iast (k := 5) hX (dk DX11_init_2 23 rfl) (by decide) rfl rfl (by decide) (by decide) ?_
  refine wp_iinc (v := 6) hX (dk DX11_init_2 24 rfl) rfl (by decide) rfl hN ?_
  show WP _ _ _ 289 [_, _] [] _
  refine wp_goto (tgt := 273) hX (dk DX11_init_2 25 rfl) (by decide) ?_
  refine wp_iload_n hX (dk DX11_init_2 16 rfl) rfl ?_
  refine wp_bipush (v := 6) hX (dk DX11_init_2 17 rfl) (by decide) ?_
  refine wp_icmp_ge (tgt := 292) hX (dk DX11_init_2 18 rfl) (by decide) (fun _ => ?_) (fun h_ => absurd (by decide) h_)
  exact wp_return hX hR (dk DX11_init_2 26 rfl) (by decide) (by decide) ⟨rfl, rfl⟩
