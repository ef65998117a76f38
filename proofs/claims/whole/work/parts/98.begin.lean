/-! THE LAW FROM ITS BEGIN: the two are made, nothing is in them -/
def z0 : Nat → Nat → Int32 := fun _ _ => 0
def z1 : Nat → Nat → Int64 := fun _ _ => 0
def zI : Nat → Nat → Int32 := modHoldF (shF z0)
theorem zI_0 {b : Nat} (h1 : b ≠ 74) (h2 : b ≠ 106) : zI b = fun _ => 0 := by
  unfold zI modHoldF shF
  simp only [u2_ne _ _ _ h1, u2_ne _ _ _ h2]
  rfl
theorem zI_at {b i : Nat} (h1 : b ≠ 74) (h2 : b ≠ 106) : zI b i = 0 := by rw [zI_0 h1 h2]
theorem zI_74 : ∀ b, b < 6 → zI 74 b = -1 := by decide +kernel
theorem zI_106 : ∀ b, b < 6 → zI 106 b = -1 := by decide +kernel
theorem IV0 : IVe zI z1 := by
  have z : ∀ b i, b ≠ 74 → b ≠ 106 → zI b i = 0 := fun b i h1 h2 => zI_at h1 h2
  have n0 : nI 0 = 0 := nI_0
  refine ⟨0, fun _ => 0, [], 0, 0, ⟨⟨⟨z 1 4 (by decide) (by decide), Nat.zero_le _, fun i hi => absurd hi (Nat.not_lt_zero _)⟩, fun i hi => absurd hi (Nat.not_lt_zero _), ⟨id, fun i hi => absurd hi (Nat.not_lt_zero _), fun k hk => absurd hk (Nat.not_lt_zero _), fun i j _ hj => absurd hj (Nat.not_lt_zero _)⟩⟩, ⟨z 81 0 (by decide) (by decide), Nat.zero_le _, fun i hi => absurd hi (Nat.not_lt_zero _)⟩, fun i w hw => by rw [z 3 _ (by decide) (by decide), z (83 + w) _ (by omega) (by omega)], fun i _ => ⟨z 84 i (by decide) (by decide), z 85 i (by decide) (by decide)⟩⟩, ⟨⟨z 49 3 (by decide) (by decide), Nat.zero_le _, fun j q h => (by cases h), fun l h => (by cases h)⟩, ⟨z 81 11 (by decide) (by decide), z 81 12 (by decide) (by decide), Nat.zero_le _, Nat.zero_le _, fun i l h => (by cases h), fun j k h => (by cases h)⟩⟩, ⟨Nat.zero_le _, z 61 6 (by decide) (by decide), z 81 5 (by decide) (by decide), by rw [zI_0 (b := 62) (by decide) (by decide), zI_0 (b := 86) (by decide) (by decide)], by rw [zI_0 (b := 63) (by decide) (by decide), zI_0 (b := 87) (by decide) (by decide)], fun b _ => z 63 b (by decide) (by decide), fun j _ => by rw [z 64 j (by decide) (by decide), z 99 j (by decide) (by decide)], by rw [z 64 3 (by decide) (by decide), z 81 8 (by decide) (by decide)], Or.inl ⟨z 61 8 (by decide) (by decide), z 81 28 (by decide) (by decide)⟩⟩, ⟨fun _ => 0, 0, Nat.zero_le _, z 46 2 (by decide) (by decide), z 81 9 (by decide) (by decide), fun j hj => absurd hj (Nat.not_lt_zero _)⟩, ⟨0, 0, Nat.zero_le _, z 68 1 (by decide) (by decide), z 68 2 (by decide) (by decide), z 81 35 (by decide) (by decide), z 81 34 (by decide) (by decide), by rw [zI_0 (b := 69) (by decide) (by decide), zI_0 (b := 103) (by decide) (by decide)], fun k hk => absurd hk (Nat.not_lt_zero _)⟩, ⟨Nat.zero_le _, z 70 2 (by decide) (by decide), z 81 37 (by decide) (by decide), fun i hi => absurd hi (Nat.not_lt_zero _)⟩, ⟨[], ⟨z 70 3 (by decide) (by decide), Nat.zero_le _, fun j q _ h => (by cases h)⟩, ⟨z 81 39 (by decide) (by decide), Nat.zero_le _, fun j q _ h => (by cases h)⟩⟩, rfl, fun b hb => ⟨Or.inl ⟨zI_74 b hb, zI_106 b hb⟩, fun h => absurd h (by rw [zI_74 b hb]; decide)⟩⟩
theorem old_x {n : Nat} : x_old n (.ref 1000) := fun r e => by cases e; exact Or.inr (Nat.le_refl _)
theorem zf_0 (n : Nat) : zf n z0 z1 := fun _ _ => ⟨rfl, rfl⟩
theorem TT_S (f : Nat → Nat → Int32) (g : Nat → Nat → Int64) : TT 115 f g [] = S false f g := by
  have e : rP [] = rf0 false := by
    funext a k
    exact if_neg (fun h => by cases h)
  show (115, kd0, ln0, f, g, rP []) = (115, kd0, ln0, f, g, rf0 false)
  rw [e]
theorem Good.less {X : cxT} {own : String} {cc : ByteArray} {d C S C2 S2 : Nat} (h : Good X own cc d C S) (h1 : C2 ≤ C) (h2 : S2 ≤ S) : Good X own cc d C2 S2 := by
  obtain ⟨⟨p, l, e, R, s, m, args, below, meth, c⟩, Z, A, D, ty, xt, nL, L0⟩ := X
  obtain ⟨a1, a2, a3, a4, a5, a6, a7, a8, a9, b1, b2, b3, b4, b5⟩ := h
  exact ⟨a1, a2, a3, a4, a5, a6, a7, a8, a9, b1, b2, b3, Nat.le_trans h1 b4, Nat.le_trans h2 b5⟩
theorem law_go {X : cxT} {n d : Nat} {xs : Nat → Int32} (hX : Good X RL cL_law (d + 110 + 1) 115 6084) (hN : x_nl X = 4) (hs : x_scr X n xs) (hn : n ≤ 3072) (kend : ∀ (sw : Bool) (f : Nat → Nat → Int32) (g : Nat → Nat → Int64) (i : Nat), WP X 115 6084 1633 [some (.ref 1000), some (.ref 0), some (.ref 81), some (.int (nI i))] [] (S sw f g)) : WP X 0 0 0 [some (.ref 1000), none, none, none] [] (TT 0 z0 z1 []) := by
  have p0 : ∀ {k : Nat}, ∀ q ∈ ([] : List (Nat × Nat)), q.1 < k := fun q h => by cases h
  refine t_new hX cfX10 klL_7 ciX10 (dk DL_law 0 rfl) (by decide) (by decide) (by decide) old_0 (lold_c old_x (lold_n (lold_n (lold_n lold_0)))) rfl rfl (zf_0 0) ord0 p0 ?_
  show WP X 1 10 3 [some (.ref 1000), none, none, none] [.ref 0] (TT 1 z0 z1 ([(0, 0), (0, 1), (0, 2), (0, 3), (0, 4), (0, 5), (0, 6), (0, 7), (0, 8), (0, 9)] ++ []))
  refine wp_dup hX (dk DL_law 1 rfl) rfl ?_
  refine t_call (As := []) lkL_9 hX (dk DL_law 2 rfl) rfl (by decide) (by decide) (by decide) (i_X10 (d + 107) z0 z1 [] p0 (zf_0 1)) (old_c (old_r (by decide)) old_0) (lold_c old_x (lold_n (lold_n (lold_n lold_0)))) ?_
  show WP X 81 4005 7 [some (.ref 1000), none, none, none] [.ref 0] (TT 81 (shF z0) z1 [])
  refine wp_astore_n hX (dk DL_law 3 rfl) rfl rfl hN (Nat.le_of_ble_eq_true rfl) ?_
  show WP X 81 4005 8 [some (.ref 1000), some (.ref 0), none, none] [] (TT 81 (shF z0) z1 [])
  have z81 : zf 81 (shF z0) z1 := (shF_z (zf_0 0) (by decide)).up (by decide)
  refine t_new hX cfX11 klL_10 ciX11 (dk DL_law 4 rfl) (by decide) (by decide) (by decide) old_0 (lold_c old_x (lold_c (old_r (by decide)) (lold_n (lold_n lold_0)))) rfl rfl z81 ord81 p0 ?_
  show WP X 82 4055 11 [some (.ref 1000), some (.ref 0), none, none] [.ref 81] (TT 82 (shF z0) z1 ([(81, 1), (81, 2), (81, 3), (81, 4), (81, 6), (81, 7), (81, 10), (81, 13), (81, 14), (81, 15), (81, 16), (81, 21), (81, 22), (81, 23), (81, 24), (81, 25), (81, 26), (81, 27), (81, 31), (81, 32), (81, 33), (81, 36), (81, 38), (81, 40), (81, 41), (81, 42), (81, 43), (81, 44), (81, 45), (81, 46), (81, 47), (81, 48), (81, 49)] ++ []))
  refine wp_dup hX (dk DL_law 5 rfl) rfl ?_
  refine t_call (As := []) lkL_12 hX (dk DL_law 6 rfl) rfl (by decide) (by decide) (by decide) (i_X11 (d + 109) (shF z0) z1 [] p0 (z81.up (by decide))) (old_c (old_r (by decide)) old_0) (lold_c old_x (lold_c (old_r (by decide)) (lold_n (lold_n lold_0)))) ?_
  show WP X 115 6084 15 [some (.ref 1000), some (.ref 0), none, none] [.ref 81] (TT 115 zI z1 [])
  rw [TT_S]
  refine wp_astore_n hX (dk DL_law 7 rfl) rfl rfl hN (Nat.le_of_ble_eq_true rfl) ?_
  refine wp_iconst (v := 0) hX (dk DL_law 8 rfl) (by decide) ?_
  refine wp_istore_n hX (dk DL_law 9 rfl) rfl rfl hN (Nat.le_of_ble_eq_true rfl) ?_
  show WP X 115 6084 18 [some (.ref 1000), some (.ref 0), some (.ref 81), some (.int 0)] [] (S false zI z1)
  have key := law_loop hX hN hs hn kend (n + 1) 0 false zI z1 (by omega) (Nat.zero_le _) IV0
  rw [nI_0] at key
  exact key
